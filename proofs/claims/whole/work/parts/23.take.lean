theorem fb_holes : ∀ (m n : Nat) (f : Nat → Nat), (∀ i, i < n → f i < m) → (∀ i j, i < j → j < n → f i ≠ f j) → n ≤ m := by
  intro m
  induction m with
  | zero =>
    intro n f h1 _
    rcases Nat.eq_zero_or_pos n with h | h
    · omega
    · exact absurd (h1 0 h) (Nat.not_lt_zero _)
  | succ m ih =>
    intro n f h1 h2
    by_cases hx : ∃ i, i < n ∧ f i = m
    · obtain ⟨a, ha, hfa⟩ := hx
      have hg := ih (n - 1) (fun i => if i < a then f i else f (i + 1)) (by
        intro i hi
        by_cases q : i < a
        · simp only [if_pos q]
          have b1 := h1 i (by omega)
          have b2 := h2 i a q ha
          omega
        · simp only [if_neg q]
          have b1 := h1 (i + 1) (by omega)
          have b2 := h2 a (i + 1) (by omega) (by omega)
          omega) (by
        intro i j hij hj
        by_cases q : i < a
        · by_cases r : j < a
          · simp only [if_pos q, if_pos r]
            exact h2 i j hij (by omega)
          · simp only [if_pos q, if_neg r]
            exact h2 i (j + 1) (by omega) (by omega)
        · have r : ¬ j < a := by omega
          simp only [if_neg q, if_neg r]
          exact h2 (i + 1) (j + 1) (by omega) (by omega))
      omega
    · have hg := ih n f (fun i hi => by
        have b1 := h1 i hi
        have b2 : f i ≠ m := fun e => hx ⟨i, hi, e⟩
        omega) h2
      omega
/-- two of them in one place -/
theorem fb_twice {m n : Nat} {f : Nat → Nat} (h : ∀ i, i < n → f i < m) (hm : m < n) : ∃ i j, i < j ∧ j < n ∧ f i = f j := by
  refine Classical.byContradiction fun hx => ?_
  have := fb_holes m n f h (fun i j hij hj e => hx ⟨i, j, hij, hj, e⟩)
  omega
/-- as many as places, none twice: each place is taken -/
theorem fb_onto {n : Nat} {f : Nat → Nat} (h : ∀ i, i < n → f i < n) (h2 : ∀ i j, i < j → j < n → f i ≠ f j) {y : Nat} (hy : y < n) : ∃ i, i < n ∧ f i = y := by
  refine Classical.byContradiction fun hx => ?_
  have hne : ∀ i, i < n → f i ≠ y := fun i hi e => hx ⟨i, hi, e⟩
  have := fb_holes (n - 1) n (fun i => if f i < y then f i else f i - 1) (by
    intro i hi
    have b1 := h i hi
    have b2 := hne i hi
    by_cases q : f i < y
    · simp only [if_pos q]; omega
    · simp only [if_neg q]; omega) (by
    intro i j hij hj
    have b1 := hne i (by omega)
    have b2 := hne j hj
    have b3 := h2 i j hij hj
    by_cases q : f i < y
    · by_cases r : f j < y
      · simp only [if_pos q, if_pos r]; exact b3
      · simp only [if_pos q, if_neg r]; omega
    · by_cases r : f j < y
      · simp only [if_neg q, if_pos r]; omega
      · simp only [if_neg q, if_neg r]; omega)
  omega
/-! ===== how many places have a property ===== -/
/-! sums over an order -/
theorem sm_swap (F : Nat → Nat → Nat) (m : Nat) : ∀ n, sm (fun x => sm (fun j => F x j) m) n = sm (fun j => sm (fun x => F x j) n) m
  | 0 => by
    show 0 = _
    exact (sm_z (fun k _ => rfl)).symm
  | n + 1 => by
    rw [sm_s, sm_swap F m n, ← sm_add]
    exact sm_cong (fun k _ => rfl)
theorem sm_ind (v : Nat → Nat) {i : Nat} : ∀ {n : Nat}, i < n → sm (fun x => if x = i then v x else 0) n = v i
  | 0, h => absurd h (Nat.not_lt_zero i)
  | n + 1, h => by
    rw [sm_s]
    by_cases e : i = n
    · subst e
      rw [if_pos rfl, sm_z (fun k hk => if_neg (by omega))]; omega
    · rw [sm_ind v (show i < n by omega), if_neg (fun e2 => e e2.symm)]; rfl
/-- an order: every place once -/
def perm (n : Nat) (o : Nat → Nat) : Prop := (∀ i, i < n → o i < n) ∧ ∀ i j, i < j → j < n → o i ≠ o j
theorem sm_perm {n : Nat} {o : Nat → Nat} (h : perm n o) (f : Nat → Nat) : sm f n = sm (fun j => f (o j)) n := by
  have h1 : sm f n = sm (fun x => sm (fun j => if o j = x then f x else 0) n) n := by
    apply sm_cong
    intro x hx
    obtain ⟨i, hi, rfl⟩ := fb_onto h.1 h.2 hx
    have e : sm (fun j => if o j = o i then f (o i) else 0) n = sm (fun j => if j = i then f (o i) else 0) n := by
      apply sm_cong
      intro j hj
      by_cases e : j = i
      · subst e; rw [if_pos rfl, if_pos rfl]
      · have hne : o j ≠ o i := by
          rcases Nat.lt_or_ge j i with q | q
          · exact h.2 j i q hi
          · exact (h.2 i j (by omega) hj).symm
        rw [if_neg hne, if_neg e]
    rw [e, sm_ind (fun _ => f (o i)) hi]
  rw [h1, sm_swap]
  apply sm_cong
  intro j hj
  have e : sm (fun x => if o j = x then f x else 0) n = sm (fun x => if x = o j then f x else 0) n := sm_cong (fun x _ => by
    by_cases e : x = o j
    · rw [if_pos e, if_pos e.symm]
    · rw [if_neg e, if_neg (fun e2 => e e2.symm)])
  rw [e, sm_ind f (h.1 j hj)]
/-- the pans in order of age -/
def srt (n : Nat) (Y o : Nat → Nat) : Prop := (∀ i, i < n → o i < n) ∧ ∀ i j, i < j → j < n → old Y (o i) (o j)
theorem srt.perm {n : Nat} {Y o : Nat → Nat} (h : srt n Y o) : perm n o := ⟨h.1, fun i j hij hj e => by
  have := h.2 i j hij hj
  rw [e] at this
  rcases this with q | q <;> omega⟩
theorem srt.onto {n : Nat} {Y o : Nat → Nat} (h : srt n Y o) {q : Nat} (hq : q < n) : ∃ i, i < n ∧ o i = q := fb_onto h.perm.1 h.perm.2 hq
/-- what is older than the rain q -/
def bf (Y : Nat → Nat) (n : Nat) (r : Nat → Nat) (q : Nat) : Nat := sm (fun x => if old Y x q then r x else 0) n
theorem bf_cong {Y : Nat → Nat} {n : Nat} {r r' : Nat → Nat} (h : ∀ q, q < n → r q = r' q) (q : Nat) : bf Y n r q = bf Y n r' q := sm_cong (fun x hx => by rw [h x hx])
theorem bf_o {n : Nat} {Y o : Nat → Nat} (h : srt n Y o) (r : Nat → Nat) {i : Nat} (hi : i < n) : bf Y n r (o i) = sm (fun j => r (o j)) i := by
  unfold bf
  rw [sm_perm h.perm (fun x => if old Y x (o i) then r x else 0)]
  rw [sm_ext _ (show i ≤ n by omega) (fun k h1 h2 => if_neg (by
    intro hk
    by_cases e : i = k
    · subst e; rcases hk with q | q <;> omega
    · have := h.2 i k (by omega) h2
      rcases hk with q | q <;> rcases this with w | w <;> omega))]
  exact sm_cong (fun k hk => if_pos (h.2 k i hk hi))
theorem sm_o {n : Nat} {Y o : Nat → Nat} (h : srt n Y o) (r : Nat → Nat) : sm r n = sm (fun j => r (o j)) n := sm_perm h.perm r
/-- what is left when k are taken, the oldest first -/
def rs (Y : Nat → Nat) (n k : Nat) (r : Nat → Nat) (q : Nat) : Nat := (bf Y n r q + r q - k) - (bf Y n r q - k)
theorem rs_cong {Y : Nat → Nat} {n k : Nat} {r r' : Nat → Nat} (h : ∀ q, q < n → r q = r' q) {q : Nat} (hq : q < n) : rs Y n k r q = rs Y n k r' q := by
  unfold rs
  rw [bf_cong h, h q hq]
theorem rs_0 (Y : Nat → Nat) (n : Nat) (r : Nat → Nat) (q : Nat) : rs Y n 0 r q = r q := by unfold rs; omega
theorem rs_le (Y : Nat → Nat) (n k : Nat) (r : Nat → Nat) (q : Nat) : rs Y n k r q ≤ r q := by unfold rs; omega
theorem rs_pre {n : Nat} {Y o : Nat → Nat} (h : srt n Y o) (r : Nat → Nat) (k : Nat) : ∀ i, i ≤ n → sm (fun j => rs Y n k r (o j)) i = sm (fun j => r (o j)) i - k
  | 0, _ => by show 0 = 0 - k; omega
  | i + 1, hi => by
    rw [sm_s, sm_s, rs_pre h r k i (by omega)]
    unfold rs
    rw [bf_o h r (show i < n by omega)]
    omega
theorem rs_bf {n : Nat} {Y o : Nat → Nat} (h : srt n Y o) (r : Nat → Nat) (k : Nat) {q : Nat} (hq : q < n) : bf Y n (rs Y n k r) q = bf Y n r q - k := by
  obtain ⟨i, hi, rfl⟩ := h.onto hq
  rw [bf_o h _ hi, bf_o h _ hi]
  exact rs_pre h r k i (by omega)
theorem rs_sm {n : Nat} {Y o : Nat → Nat} (h : srt n Y o) (r : Nat → Nat) (k : Nat) : sm (rs Y n k r) n = sm r n - k := by
  rw [sm_o h, sm_o h r]
  exact rs_pre h r k n (Nat.le_refl n)
theorem rs_rs {n : Nat} {Y o : Nat → Nat} (h : srt n Y o) (r : Nat → Nat) (a b : Nat) {q : Nat} (hq : q < n) : rs Y n a (rs Y n b r) q = rs Y n (b + a) r q := by
  show (bf Y n (rs Y n b r) q + rs Y n b r q - a) - (bf Y n (rs Y n b r) q - a) = _
  rw [rs_bf h r b hq]
  unfold rs
  omega
theorem rs_big {n : Nat} {Y o : Nat → Nat} (h : srt n Y o) (r : Nat → Nat) {k : Nat} (hk : sm r n ≤ k) {q : Nat} (hq : q < n) : rs Y n k r q = 0 := by
  have h1 := rs_sm h r k
  have h2 := sm_el (rs Y n k r) hq
  omega
/-- the oldest rain that there is -/
def first (Y : Nat → Nat) (n : Nat) (r : Nat → Nat) (y : Nat) : Prop := y < n ∧ 0 < r y ∧ ∀ x, x < n → 0 < r x → x = y ∨ old Y y x
theorem first_bf {Y : Nat → Nat} {n : Nat} {r : Nat → Nat} {y : Nat} (h : first Y n r y) : bf Y n r y = 0 := sm_z (fun x hx => by
  by_cases e : old Y x y
  · rw [if_pos e]
    rcases Nat.eq_zero_or_pos (r x) with q | q
    · exact q
    · rcases h.2.2 x hx q with w | w
      · subst w; rcases e with e | e <;> omega
      · rcases e with e | e <;> rcases w with w | w <;> omega
  · rw [if_neg e])
/-- one spoon -/
theorem rs_1 {Y : Nat → Nat} {n : Nat} {r : Nat → Nat} {y : Nat} (h : first Y n r y) {q : Nat} (hq : q < n) : rs Y n 1 r q = if q = y then r y - 1 else r q := by
  by_cases e : q = y
  · subst e
    rw [if_pos rfl]
    unfold rs
    rw [first_bf h]
    omega
  · rw [if_neg e]
    unfold rs
    rcases Nat.eq_zero_or_pos (r q) with z | z
    · omega
    · have h1 : r y ≤ bf Y n r q := by
        have h2 := sm_el (fun x => if old Y x q then r x else 0) h.1
        rcases h.2.2 q hq z with w | w
        · exact absurd w e
        · rw [if_pos w] at h2
          exact h2
      have := h.2.1
      omega
theorem no_first {n : Nat} {r : Nat → Nat} (h : ∀ x, x < n → r x = 0) : sm r n = 0 := sm_z h
/-! pans -/
def gone (Y : Nat → Nat) (n k p : Nat) (g : Nat → Nat) : Nat → Nat := fun x => if x / 7 = p ∧ x % 7 < n then rs Y n k (fun q => g (7 * p + q)) (x % 7) else g x
def pour (Y : Nat → Nat) (n k p t : Nat) (g : Nat → Nat) : Nat → Nat := fun x => if x / 7 = p ∧ x % 7 < n then rs Y n k (fun q => g (7 * p + q)) (x % 7) else if x / 7 = t ∧ x % 7 < n then g x + (g (7 * p + x % 7) - rs Y n k (fun q => g (7 * p + q)) (x % 7)) else g x
theorem gone_in (Y : Nat → Nat) {n : Nat} (k p : Nat) (g : Nat → Nat) (hn : n ≤ 7) {q : Nat} (hq : q < n) : gone Y n k p g (7 * p + q) = rs Y n k (fun q => g (7 * p + q)) q := by
  unfold gone
  rw [if_pos (by omega), show (7 * p + q) % 7 = q by omega]
theorem gone_out (Y : Nat → Nat) {n : Nat} (k p : Nat) (g : Nat → Nat) {x : Nat} (h : ¬ (x / 7 = p ∧ x % 7 < n)) : gone Y n k p g x = g x := if_neg h
theorem pour_in (Y : Nat → Nat) {n : Nat} (k p t : Nat) (g : Nat → Nat) (hn : n ≤ 7) {q : Nat} (hq : q < n) : pour Y n k p t g (7 * p + q) = rs Y n k (fun q => g (7 * p + q)) q := by
  unfold pour
  rw [if_pos (by omega), show (7 * p + q) % 7 = q by omega]
theorem pour_to (Y : Nat → Nat) {n : Nat} (k : Nat) {p t : Nat} (g : Nat → Nat) (hn : n ≤ 7) (hpt : p ≠ t) {q : Nat} (hq : q < n) : pour Y n k p t g (7 * t + q) = g (7 * t + q) + (g (7 * p + q) - rs Y n k (fun q => g (7 * p + q)) q) := by
  unfold pour
  rw [if_neg (by omega), if_pos (by omega), show (7 * t + q) % 7 = q by omega]
theorem pour_out (Y : Nat → Nat) {n : Nat} (k p t : Nat) (g : Nat → Nat) {x : Nat} (h : ¬ (x / 7 = p ∧ x % 7 < n)) (h2 : ¬ (x / 7 = t ∧ x % 7 < n)) : pour Y n k p t g x = g x := by
  unfold pour
  rw [if_neg h, if_neg h2]
/-! the class takes -/
theorem qmin {a b : Nat} (ha : a < 2147483648) (hb : b < 2147483648) : (if nI a < nI b then nI a else nI b) = nI (min a b) := by
  by_cases h : a < b
  · rw [if_pos (nI_lt h hb), Nat.min_eq_left (by omega)]
  · rw [if_neg (nI_nlt (by omega) ha), Nat.min_eq_right (by omega)]
theorem m1n (k : Nat) (hk : k < 2147483648) : ¬ nI k = (-nI 1) := by
  intro e
  have := congrArg Int32.toInt e
  rw [nI_toInt hk, show (-nI 1 : Int32).toInt = -1 by decide] at this
  omega
theorem take_gone {n k p b : Nat} {Y o : Nat → Nat} {g : Nat → Nat} {hb sp : Nat → Int32} (hn : n ≤ 7) (hp : p < 7) (ho : srt n Y o) (hbo : ∀ i, i < n → hb i = nI (o i)) (hk : k < 1000000) (hg : ∀ x, x < 49 → g x < 1000000) (hs : ∀ x, x < 49 → sp x = nI (g x)) :
    ∃ sp', f_X4_take (nI b) (nI n) hb sp (nI p) (nI k) (-1) = some (nI (min k (sm (fun q => g (7 * p + q)) n)), nI (b + min k (sm (fun q => g (7 * p + q)) n)), sp') ∧ ∀ x, x < 49 → sp' x = nI (gone Y n k p g x) := by
  unfold f_X4_take
  simp only [L0, L1, L2, L3, L4, L5, L6, L7, L8, L9, L10, L11, L12, L13, L19, L20, L26, L31, L32, L33, L48, L49, L50, L51, L57, L59, L60, L61, L98, L99, L100, L108, L112, L115, L127, L128, L200, L201, L255, L256, L257, L400, L401, L420, L459, L999, L1000, L5940]
  have key : ∀ d i f (sp : Nat → Int32), i + d = n → d < f → (∀ j, j < i → sp (7 * p + o j) = nI (rs Y n k (fun q => g (7 * p + q)) (o j))) → (∀ x, x < 49 → (∀ j, j < i → x ≠ 7 * p + o j) → sp x = nI (g x)) →
      ∃ sp', f_X4_take_L6 (nI n) hb (nI p) (nI k) (-nI 1) f (nI (k - sm (fun j => g (7 * p + o j)) i)) (nI i) (nI (b + min k (sm (fun j => g (7 * p + o j)) i))) sp = some (nI (min k (sm (fun q => g (7 * p + q)) n)), nI (b + min k (sm (fun q => g (7 * p + q)) n)), sp') ∧ ∀ x, x < 49 → sp' x = nI (gone Y n k p g x) := by
    intro d
    induction d with
    | zero =>
      intro i f sp hi hf h1 h2
      obtain ⟨f, rfl⟩ : ∃ k, f = k + 1 := ⟨f - 1, by omega⟩
      have hi : i = n := by omega
      subst hi
      refine ⟨sp, ?_, fun x hx => ?_⟩
      · show f_X4_take_B6 _ _ _ _ _ _ _ _ _ _ = _
        unfold f_X4_take_B6
        have e := sm_o ho (fun q => g (7 * p + q))
        rw [if_pos (nI_le (Nat.le_refl _) (by omega)), e, qsub (by omega)]
        congr 3
        omega
      · by_cases c : x / 7 = p ∧ x % 7 < i
        · obtain ⟨j, hj, ej⟩ := ho.onto c.2
          have ex : x = 7 * p + o j := by omega
          rw [ex, h1 j hj, gone_in Y k p g hn (ho.1 j hj)]
        · rw [gone_out Y k p g c]
          exact h2 x hx (fun j hj e => c (by have := ho.1 j hj; omega))
    | succ d ih =>
      intro i f sp hi hf h1 h2
      obtain ⟨f, rfl⟩ : ∃ k, f = k + 1 := ⟨f - 1, by omega⟩
      have hin : i < n := by omega
      have hoi := ho.1 i hin
      have hx : 7 * p + o i < 49 := by omega
      have hfr : sp (7 * p + o i) = nI (g (7 * p + o i)) := h2 _ hx (fun j hj e => ho.perm.2 j i hj hin (by omega))
      have ham : f_X4_amount sp (nI p) (nI (o i)) = some (nI (g (7 * p + o i))) := by
        unfold f_X4_amount
        rw [q_at, qbd, qck hx (by omega), qcl (by omega), hfr]
      have hgx := hg _ hx
      show ∃ sp', f_X4_take_B6 _ _ _ _ _ _ _ _ _ _ = _ ∧ _
      unfold f_X4_take_B6 f_X4_take_J95
      simp only [L0, L1, L2, L3, L4, L5, L6, L7, L8, L9, L10, L11, L12, L13, L19, L20, L26, L31, L32, L33, L48, L49, L50, L51, L57, L59, L60, L61, L98, L99, L100, L108, L112, L115, L127, L128, L200, L201, L255, L256, L257, L400, L401, L420, L459, L999, L1000, L5940]
      rw [if_neg (nI_ge hin (by omega)), qck (show i < 7 by omega) (by omega), qcl (by omega), hbo i hin, ham, qbd, q_at, qbd, qck hx (by omega), qck hx (by omega), if_pos trivial, qcl (by omega), hfr, qmin (by omega) (by omega), nI_add, nI_add, qsub (Nat.min_le_left _ _), qsub (Nat.min_le_right _ _)]
      have e1 : k - sm (fun j => g (7 * p + o j)) i - min (g (7 * p + o i)) (k - sm (fun j => g (7 * p + o j)) i) = k - sm (fun j => g (7 * p + o j)) (i + 1) := by rw [sm_s]; omega
      have e2 : b + min k (sm (fun j => g (7 * p + o j)) i) + min (g (7 * p + o i)) (k - sm (fun j => g (7 * p + o j)) i) = b + min k (sm (fun j => g (7 * p + o j)) (i + 1)) := by rw [sm_s]; omega
      rw [e1, e2]
      refine ih (i + 1) f _ (by omega) (by omega) (fun j hj => ?_) (fun x hx2 hne => ?_)
      · by_cases ej : j = i
        · subst ej
          rw [qu_s]
          unfold rs
          rw [bf_o ho _ hin]
          dsimp only
          congr 1
          omega
        · rw [qu_n (fun e => ho.perm.2 j i (by omega) hin (by omega))]
          exact h1 j (by omega)
      · rw [qu_n (hne i (by omega))]
        exact h2 x hx2 (fun j hj => hne j (by omega))
  have := key n 0 FU sp (by omega) (fu (by omega)) (fun j hj => absurd hj (by omega)) (fun x hx _ => hs x hx)
  simpa [sm] using this
theorem take_pour {n k p t : Nat} {lo : Int32} {Y o : Nat → Nat} {g : Nat → Nat} {hb sp : Nat → Int32} (hn : n ≤ 7) (hp : p < 7) (ht : t < 7) (hpt : p ≠ t) (ho : srt n Y o) (hbo : ∀ i, i < n → hb i = nI (o i)) (hk : k < 1000000) (hg : ∀ x, x < 49 → g x < 1000000) (hs : ∀ x, x < 49 → sp x = nI (g x)) :
    ∃ sp', f_X4_take lo (nI n) hb sp (nI p) (nI k) (nI t) = some (nI (min k (sm (fun q => g (7 * p + q)) n)), lo, sp') ∧ ∀ x, x < 49 → sp' x = nI (pour Y n k p t g x) := by
  unfold f_X4_take
  simp only [L0, L1, L2, L3, L4, L5, L6, L7, L8, L9, L10, L11, L12, L13, L19, L20, L26, L31, L32, L33, L48, L49, L50, L51, L57, L59, L60, L61, L98, L99, L100, L108, L112, L115, L127, L128, L200, L201, L255, L256, L257, L400, L401, L420, L459, L999, L1000, L5940]
  have key : ∀ d i f (sp : Nat → Int32), i + d = n → d < f → (∀ j, j < i → sp (7 * p + o j) = nI (rs Y n k (fun q => g (7 * p + q)) (o j))) → (∀ j, j < i → sp (7 * t + o j) = nI (g (7 * t + o j) + (g (7 * p + o j) - rs Y n k (fun q => g (7 * p + q)) (o j)))) → (∀ x, x < 49 → (∀ j, j < i → x ≠ 7 * p + o j ∧ x ≠ 7 * t + o j) → sp x = nI (g x)) →
      ∃ sp', f_X4_take_L6 (nI n) hb (nI p) (nI k) (nI t) f (nI (k - sm (fun j => g (7 * p + o j)) i)) (nI i) lo sp = some (nI (min k (sm (fun q => g (7 * p + q)) n)), lo, sp') ∧ ∀ x, x < 49 → sp' x = nI (pour Y n k p t g x) := by
    intro d
    induction d with
    | zero =>
      intro i f sp hi hf h1 h1' h2
      obtain ⟨f, rfl⟩ : ∃ k, f = k + 1 := ⟨f - 1, by omega⟩
      have hi : i = n := by omega
      subst hi
      refine ⟨sp, ?_, fun x hx => ?_⟩
      · show f_X4_take_B6 _ _ _ _ _ _ _ _ _ _ = _
        unfold f_X4_take_B6
        have e := sm_o ho (fun q => g (7 * p + q))
        rw [if_pos (nI_le (Nat.le_refl _) (by omega)), e, qsub (by omega)]
        congr 3
        omega
      · by_cases c : x / 7 = p ∧ x % 7 < i
        · obtain ⟨j, hj, ej⟩ := ho.onto c.2
          have ex : x = 7 * p + o j := by omega
          rw [ex, h1 j hj, pour_in Y k p t g hn (ho.1 j hj)]
        · by_cases c2 : x / 7 = t ∧ x % 7 < i
          · obtain ⟨j, hj, ej⟩ := ho.onto c2.2
            have ex : x = 7 * t + o j := by omega
            rw [ex, h1' j hj, pour_to Y k g hn hpt (ho.1 j hj)]
          · rw [pour_out Y k p t g c c2]
            exact h2 x hx (fun j hj => ⟨fun e => c (by have := ho.1 j hj; omega), fun e => c2 (by have := ho.1 j hj; omega)⟩)
    | succ d ih =>
      intro i f sp hi hf h1 h1' h2
      obtain ⟨f, rfl⟩ : ∃ k, f = k + 1 := ⟨f - 1, by omega⟩
      have hin : i < n := by omega
      have hoi := ho.1 i hin
      have hx : 7 * p + o i < 49 := by omega
      have hxt : 7 * t + o i < 49 := by omega
      have hne0 : ∀ j, j < i → o j ≠ o i := fun j hj e => ho.perm.2 j i hj hin e
      have hfr : sp (7 * p + o i) = nI (g (7 * p + o i)) := h2 _ hx (fun j hj => ⟨fun e => hne0 j hj (by omega), fun e => by have := ho.1 j (by omega); omega⟩)
      have hft : sp (7 * t + o i) = nI (g (7 * t + o i)) := h2 _ hxt (fun j hj => ⟨fun e => by have := ho.1 j (by omega); omega, fun e => hne0 j hj (by omega)⟩)
      have ham : f_X4_amount sp (nI p) (nI (o i)) = some (nI (g (7 * p + o i))) := by
        unfold f_X4_amount
        rw [q_at, qbd, qck hx (by omega), qcl (by omega), hfr]
      have hgx := hg _ hx
      show ∃ sp', f_X4_take_B6 _ _ _ _ _ _ _ _ _ _ = _ ∧ _
      unfold f_X4_take_B6 f_X4_take_J95
      simp only [L0, L1, L2, L3, L4, L5, L6, L7, L8, L9, L10, L11, L12, L13, L19, L20, L26, L31, L32, L33, L48, L49, L50, L51, L57, L59, L60, L61, L98, L99, L100, L108, L112, L115, L127, L128, L200, L201, L255, L256, L257, L400, L401, L420, L459, L999, L1000, L5940]
      rw [if_neg (nI_ge hin (by omega)), qck (show i < 7 by omega) (by omega), qcl (by omega), hbo i hin, ham, qbd, q_at, qbd, qck hx (by omega), qck hx (by omega), if_neg (m1n t (by omega)), q_at, qbd, qck hxt (by omega), qck hxt (by omega), qcl (by omega), qcl (by omega), qu_n (show 7 * t + o i ≠ 7 * p + o i by omega), hfr, hft, qmin (by omega) (by omega), nI_add, nI_add, qsub (Nat.min_le_left _ _), qsub (Nat.min_le_right _ _)]
      have e1 : k - sm (fun j => g (7 * p + o j)) i - min (g (7 * p + o i)) (k - sm (fun j => g (7 * p + o j)) i) = k - sm (fun j => g (7 * p + o j)) (i + 1) := by rw [sm_s]; omega
      have e3 : rs Y n k (fun q => g (7 * p + q)) (o i) = g (7 * p + o i) - min (g (7 * p + o i)) (k - sm (fun j => g (7 * p + o j)) i) := by
        unfold rs
        rw [bf_o ho _ hin]
        dsimp only
        omega
      rw [e1]
      refine ih (i + 1) f _ (by omega) (by omega) (fun j hj => ?_) (fun j hj => ?_) (fun x hx2 hne => ?_)
      · have := ho.1 j (by omega)
        rw [qu_n (show 7 * p + o j ≠ 7 * t + o i by omega)]
        by_cases ej : j = i
        · subst ej
          rw [qu_s, e3]
        · rw [qu_n (fun e => hne0 j (by omega) (by omega))]
          exact h1 j (by omega)
      · by_cases ej : j = i
        · subst ej
          rw [qu_s, e3]
          congr 1
          omega
        · have := ho.1 j (by omega)
          rw [qu_n (fun e => hne0 j (by omega) (by omega)), qu_n (show 7 * t + o j ≠ 7 * p + o i by omega)]
          exact h1' j (by omega)
      · rw [qu_n (hne i (by omega)).2, qu_n (hne i (by omega)).1]
        exact h2 x hx2 (fun j hj => hne j (by omega))
  have := key n 0 FU sp (by omega) (fu (by omega)) (fun j hj => absurd hj (by omega)) (fun j hj => absurd hj (by omega)) (fun x hx _ => hs x hx)
  simpa [sm] using this
/-! the reference takes, a spoon at a time -/
def dnI : Nat → Int32
  | 0 => -nI 1
  | c + 1 => nI c
theorem dnI_s (c : Nat) : nI c + -nI 1 = dnI c := by
  cases c with
  | zero => decide
  | succ c => exact pk_m1 c
theorem dnI_0 : dnI 0 < nI 0 := by decide
theorem dnI_p (c : Nat) (h : c < 2147483648) : ¬ dnI (c + 1) < nI 0 := nI_nlt (Nat.zero_le _) h
theorem m1lt : (-nI 1 : Int32) < nI 0 := by decide
theorem takes_ok {n p : Nat} {Y g : Nat → Nat} {s td : Nat → Int32} (hn : n ≤ 7) (hp : p < 7) (hs : ∀ x, x < 49 → s x = nI (g x)) (hg : ∀ x, x < 49 → g x < 1000000) (hY : ∀ j, j < n → Y j ≤ 99 ∧ td (5 + j) = nI (Y j)) (hz : ∀ q, n ≤ q → q < 7 → g (7 * p + q) = 0) :
    (sm (fun q => g (7 * p + q)) n = 0 ∧ f_X8_takes s td (nI p) = some (-nI 1, s)) ∨ ∃ y, first Y n (fun q => g (7 * p + q)) y ∧ f_X8_takes s td (nI p) = some (nI y, upd s (7 * p + y) (nI (g (7 * p + y) - 1))) := by
  have key : ∀ c f (fnd : Int32), c ≤ 7 → c < f → ((fnd = -nI 1 ∧ ∀ x, c ≤ x → x < 7 → g (7 * p + x) = 0) ∨ ∃ y, fnd = nI y ∧ c ≤ y ∧ y < n ∧ 0 < g (7 * p + y) ∧ ∀ x, c ≤ x → x < n → 0 < g (7 * p + x) → x = y ∨ old Y y x) →
      ∃ fnd', f_X8_takes_L5 s td (nI p) f fnd (dnI c) = f_X8_takes_J58 s (nI p) fnd' ∧ ((fnd' = -nI 1 ∧ ∀ x, 0 ≤ x → x < 7 → g (7 * p + x) = 0) ∨ ∃ y, fnd' = nI y ∧ 0 ≤ y ∧ y < n ∧ 0 < g (7 * p + y) ∧ ∀ x, 0 ≤ x → x < n → 0 < g (7 * p + x) → x = y ∨ old Y y x) := by
    intro c
    induction c with
    | zero =>
      intro f fnd hc hf hJ
      obtain ⟨f, rfl⟩ : ∃ k, f = k + 1 := ⟨f - 1, by omega⟩
      refine ⟨fnd, ?_, hJ⟩
      show f_X8_takes_B5 _ _ _ _ _ _ = _
      unfold f_X8_takes_B5
      simp only [L0, L1, L2, L3, L4, L5, L6, L7, L8, L9, L10, L11, L12, L13, L19, L20, L26, L31, L32, L33, L48, L49, L50, L51, L57, L59, L60, L61, L98, L99, L100, L108, L112, L115, L127, L128, L200, L201, L255, L256, L257, L400, L401, L420, L459, L999, L1000, L5940]
      rw [if_pos dnI_0]
    | succ c ih =>
      intro f fnd hc hf hJ
      obtain ⟨f, rfl⟩ : ∃ k, f = k + 1 := ⟨f - 1, by omega⟩
      have hx : 7 * p + c < 49 := by omega
      have hgx := hg _ hx
      show ∃ fnd', f_X8_takes_B5 _ _ _ _ _ _ = _ ∧ _
      unfold f_X8_takes_B5
      simp only [L0, L1, L2, L3, L4, L5, L6, L7, L8, L9, L10, L11, L12, L13, L19, L20, L26, L31, L32, L33, L48, L49, L50, L51, L57, L59, L60, L61, L98, L99, L100, L108, L112, L115, L127, L128, L200, L201, L255, L256, L257, L400, L401, L420, L459, L999, L1000, L5940]
      rw [if_neg (dnI_p c (by omega))]
      show ∃ fnd', ck (ix (nI 7 * nI p + nI c) 51) _ = _ ∧ _
      rw [pk_mul, nI_add, qck (by omega) (by omega)]
      have e0 : s (nI (7 * p) + dnI (c + 1)).toNatClampNeg = nI (g (7 * p + c)) := by
        show s (nI (7 * p) + nI c).toNatClampNeg = _
        rw [nI_add, qcl (by omega), hs _ hx]
      have e9 : dnI (c + 1) + -nI 1 = dnI c := dnI_s c
      rw [e0, e9]
      by_cases h0 : g (7 * p + c) = 0
      · rw [if_pos (by rw [h0]; exact nI_le (Nat.le_refl 0) (by omega))]
        refine ih f fnd (by omega) (by omega) ?_
        rcases hJ with ⟨e1, e2⟩ | ⟨y, e1, e2, e3, e4, e5⟩
        · refine Or.inl ⟨e1, fun x h1 h2 => ?_⟩
          by_cases ex : x = c
          · rw [ex]; exact h0
          · exact e2 x (by omega) h2
        · refine Or.inr ⟨y, e1, by omega, e3, e4, fun x h1 h2 h3 => ?_⟩
          by_cases ex : x = c
          · rw [ex] at h3; omega
          · exact e5 x (by omega) h2 h3
      · have hcn : c < n := by
          rcases Nat.lt_or_ge c n with q | q
          · exact q
          · exact absurd (hz c q (by omega)) h0
        rw [if_neg (by rw [nI_leI (by omega) (by omega)]; omega)]
        rcases hJ with ⟨e1, e2⟩ | ⟨y, e1, e2, e3, e4, e5⟩
        · subst e1
          rw [if_pos m1lt]
          refine ih f (nI c) (by omega) (by omega) (Or.inr ⟨c, rfl, Nat.le_refl c, hcn, by omega, fun x h1 h2 h3 => ?_⟩)
          by_cases ex : x = c
          · exact Or.inl ex
          · have := e2 x (by omega) (by omega); omega
        · subst e1
          have e6 : td (nI 5 + dnI (c + 1)).toNatClampNeg = nI (Y c) := by
            show td (nI 5 + nI c).toNatClampNeg = _
            rw [nI_add, qcl (by omega), (hY c hcn).2]
          have y1 := (hY c hcn).1
          have y2 := (hY y e3).1
          rw [if_neg (nI_nlt (Nat.zero_le _) (by omega))]
          show ∃ fnd', ck (ix (nI 5 + nI c) 33) _ = _ ∧ _
          rw [nI_add, qck (by omega) (by omega), nI_add, qck (by omega) (by omega), e6, qcl (by omega), (hY y e3).2]
          by_cases hlt : Y y < Y c
          · rw [if_pos (nI_lt hlt (by omega))]
            refine ih f (nI y) (by omega) (by omega) (Or.inr ⟨y, rfl, by omega, e3, e4, fun x h1 h2 h3 => ?_⟩)
            by_cases ex : x = c
            · rw [ex]; exact Or.inr (Or.inl hlt)
            · exact e5 x (by omega) h2 h3
          · rw [if_neg (nI_nlt (by omega) (by omega))]
            refine ih f (nI c) (by omega) (by omega) (Or.inr ⟨c, rfl, Nat.le_refl c, hcn, by omega, fun x h1 h2 h3 => ?_⟩)
            by_cases ex : x = c
            · exact Or.inl ex
            · right
              rcases e5 x (by omega) h2 h3 with w | w
              · subst w
                by_cases ee : Y c < Y x
                · exact Or.inl ee
                · exact Or.inr ⟨by omega, by omega⟩
              · rcases w with w | w
                · exact Or.inl (by omega)
                · by_cases ee : Y c < Y y
                  · exact Or.inl (by omega)
                  · exact Or.inr ⟨by omega, by omega⟩
  obtain ⟨fnd', e1, e2⟩ := key 7 FU (-nI 1) (by omega) (fu (by omega)) (Or.inl ⟨rfl, fun x h1 h2 => absurd h1 (by omega)⟩)
  have e3 : f_X8_takes s td (nI p) = f_X8_takes_J58 s (nI p) fnd' := by
    unfold f_X8_takes
    simp only [L0, L1, L2, L3, L4, L5, L6, L7, L8, L9, L10, L11, L12, L13, L19, L20, L26, L31, L32, L33, L48, L49, L50, L51, L57, L59, L60, L61, L98, L99, L100, L108, L112, L115, L127, L128, L200, L201, L255, L256, L257, L400, L401, L420, L459, L999, L1000, L5940]
    exact e1
  rw [e3]
  rcases e2 with ⟨w1, w2⟩ | ⟨y, w1, -, w3, w4, w5⟩
  · left
    subst w1
    refine ⟨sm_z (fun q hq => w2 q (by omega) (by omega)), ?_⟩
    unfold f_X8_takes_J58
    simp only [L0, L1, L2, L3, L4, L5, L6, L7, L8, L9, L10, L11, L12, L13, L19, L20, L26, L31, L32, L33, L48, L49, L50, L51, L57, L59, L60, L61, L98, L99, L100, L108, L112, L115, L127, L128, L200, L201, L255, L256, L257, L400, L401, L420, L459, L999, L1000, L5940]
    rw [if_pos m1lt]
  · right
    subst w1
    refine ⟨y, ⟨w3, w4, fun x h1 h2 => w5 x (by omega) h1 h2⟩, ?_⟩
    unfold f_X8_takes_J58
    simp only [L0, L1, L2, L3, L4, L5, L6, L7, L8, L9, L10, L11, L12, L13, L19, L20, L26, L31, L32, L33, L48, L49, L50, L51, L57, L59, L60, L61, L98, L99, L100, L108, L112, L115, L127, L128, L200, L201, L255, L256, L257, L400, L401, L420, L459, L999, L1000, L5940]
    have hx : 7 * p + y < 49 := by omega
    rw [if_neg (nI_nlt (Nat.zero_le _) (by omega)), pk_mul, nI_add, qck (by omega) (by omega), qck (by omega) (by omega), qcl (by omega), hs _ hx, qsub (by omega)]
