/-! the first of all hits, upwards and downwards -/
def fuo (h : Nat → Option Nat) : Nat → Option Nat
  | 0 => none
  | n + 1 => (fuo h n).or (h n)
theorem fuo_z {h : Nat → Option Nat} : ∀ {n : Nat}, (∀ k, k < n → h k = none) → fuo h n = none
  | 0, _ => rfl
  | n + 1, hh => by
    show (fuo h n).or (h n) = none
    rw [fuo_z (fun k hk => hh k (by omega)), hh n (by omega)]
    rfl
theorem fuo_cong {h h' : Nat → Option Nat} : ∀ {n : Nat}, (∀ k, k < n → h k = h' k) → fuo h n = fuo h' n
  | 0, _ => rfl
  | n + 1, hh => by
    show (fuo h n).or (h n) = (fuo h' n).or (h' n)
    rw [fuo_cong (fun k hk => hh k (by omega)), hh n (by omega)]
theorem fuo_lt {h : Nat → Option Nat} {B : Nat} : ∀ {n : Nat}, (∀ k, k < n → ∀ c, h k = some c → c < B) → ∀ c, fuo h n = some c → c < B
  | 0, _, c, e => by cases e
  | n + 1, hh, c, e => by
    have e : (fuo h n).or (h n) = some c := e
    cases h1 : fuo h n with
    | none => rw [h1] at e; exact hh n (by omega) c e
    | some d =>
      rw [h1] at e
      cases e
      exact fuo_lt (fun k hk => hh k (by omega)) c h1
def fo : Option Nat → Int32
  | none => -nI 9
  | some c => nI c
theorem fo_or {o : Option Nat} {c : Nat} (h : ∀ d, o = some d → d < 2147483648) : (if fo o = -nI 9 then nI c else fo o) = fo (o.or (some c)) := by
  cases o with
  | none => rw [if_pos (show fo none = -nI 9 from rfl)]; rfl
  | some d => rw [if_neg (show ¬ fo (some d) = -nI 9 from m9ne d (h d rfl))]; rfl
theorem or_none' (o : Option Nat) : o.or none = o := by cases o <;> rfl
theorem or_asc (a b c : Option Nat) : (a.or b).or c = a.or (b.or c) := by cases a <;> rfl
/-! mixtures -/
def hX (Y : Nat → Nat) (t s a b x : Nat) : Bool := decide (1 ≤ x ∧ Y a ≠ Y b ∧ x * Y a + (t - x) * Y b = s)
def cX (Y : Nat → Nat) (t s a b : Nat) : Nat := sm (fun x => if hX Y t s a b x = true then 1 else 0) t
def fX (Y : Nat → Nat) (t s a b : Nat) : Option Nat := fuo (fun x => if hX Y t s a b x = true then some (1000 * a + 100 * b + x) else none) t
theorem hX_one {Y : Nat → Nat} {t s a b x x' : Nat} (hx : x < t) (hx' : x' < t) (h : hX Y t s a b x = true) (h' : hX Y t s a b x' = true) : x = x' := by
  obtain ⟨-, h1, h2⟩ := of_decide_eq_true h
  obtain ⟨-, -, h3⟩ := of_decide_eq_true h'
  have key : ∀ u v : Nat, u < v → v < t → u * Y a + (t - u) * Y b = v * Y a + (t - v) * Y b → Y a = Y b := by
    intro u v huv hvt e
    obtain ⟨d, rfl⟩ : ∃ d, v = u + (d + 1) := ⟨v - u - 1, by omega⟩
    obtain ⟨w, rfl⟩ : ∃ w, t = u + (d + 1) + w := ⟨t - (u + (d + 1)), by omega⟩
    rw [show u + (d + 1) + w - u = (d + 1) + w by omega, show u + (d + 1) + w - (u + (d + 1)) = w by omega, Nat.add_mul (d + 1) w, Nat.add_mul u (d + 1)] at e
    have e2 : (d + 1) * Y b = (d + 1) * Y a := by omega
    exact (Nat.eq_of_mul_eq_mul_left (by omega) e2).symm
  rcases Nat.lt_trichotomy x x' with q | q | q
  · exact absurd (key x x' q hx' (by omega)) h1
  · exact q
  · exact absurd (key x' x q hx (by omega)) h1
theorem cX_some {Y : Nat → Nat} {t s a b x : Nat} (hx : x < t) (h : hX Y t s a b x = true) : cX Y t s a b = 1 ∧ fX Y t s a b = some (1000 * a + 100 * b + x) := by
  constructor
  · unfold cX
    rw [sm_cong (g := fun y => if y = x then 1 else 0) (fun y hy => by
      by_cases e : y = x
      · subst e; rw [if_pos h, if_pos rfl]
      · rw [if_neg (fun h' => e (hX_one hy hx h' h)), if_neg e])]
    exact sm_ind (fun _ => 1) hx
  · unfold fX
    have : ∀ m, m ≤ t → fuo (fun x => if hX Y t s a b x = true then some (1000 * a + 100 * b + x) else none) m = if x < m then some (1000 * a + 100 * b + x) else none := by
      intro m
      induction m with
      | zero => intro _; rw [if_neg (by omega)]; rfl
      | succ m ih =>
        intro hm
        show (fuo _ m).or (if hX Y t s a b m = true then some (1000 * a + 100 * b + m) else none) = _
        rw [ih (by omega)]
        by_cases c : x < m
        · rw [if_pos c, if_pos (show x < m + 1 by omega)]; rfl
        · rw [if_neg c]
          by_cases e : m = x
          · subst e; rw [if_pos h, if_pos (show m < m + 1 by omega)]; rfl
          · rw [if_neg (fun h' => e (hX_one (by omega) hx h' h)), if_neg (by omega)]; rfl
    rw [this t (Nat.le_refl t), if_pos hx]
theorem cX_none {Y : Nat → Nat} {t s a b : Nat} (h : ∀ x, x < t → hX Y t s a b x = false) : cX Y t s a b = 0 ∧ fX Y t s a b = none :=
  ⟨sm_z (fun x hx => if_neg (by rw [h x hx]; decide)), fuo_z (fun x hx => if_neg (by rw [h x hx]; decide))⟩
theorem eqX {Y : Nat → Nat} {t s a b x : Nat} (hx : x < t) (ht : t ≤ 60) (hs : s ≤ 5940) (ha : Y a ≤ 99) (hb : Y b ≤ 99) : (nI x * nI (Y a) + (nI t - nI x) * nI (Y b) = nI s) = (x * Y a + (t - x) * Y b = s) := by
  have h1 : x * Y a ≤ 60 * 99 := Nat.mul_le_mul (by omega) ha
  have h2 : (t - x) * Y b ≤ 60 * 99 := Nat.mul_le_mul (by omega) hb
  rw [qsub (by omega), pk_mul, pk_mul, nI_add, qeq (by omega) (by omega)]
theorem q_lesser {n t s a b : Nat} {Y : Nat → Nat} {hy : Nat → Int32} (hn : n ≤ 7) (ha : a < n) (hb : b < n) (ht1 : 1 ≤ t) (ht : t ≤ 60) (hs : s ≤ 5940) (hY : ∀ j, j < n → Y j ≤ 99 ∧ hy j = nI (Y j)) :
    (∃ x, 1 ≤ x ∧ x < t ∧ hX Y t s a b x = true ∧ f_X2_spoonsOfLesser hy (nI a) (nI b) (nI t) (nI s) = some (nI x)) ∨ ((∀ x, x < t → hX Y t s a b x = false) ∧ f_X2_spoonsOfLesser hy (nI a) (nI b) (nI t) (nI s) = some (nI 0)) := by
  have hYa := hY a ha
  have hYb := hY b hb
  unfold f_X2_spoonsOfLesser
  simp only [L0, L1, L2, L3, L4, L5, L6, L7, L8, L9, L10, L11, L12, L13, L19, L20, L26, L31, L32, L33, L48, L49, L50, L51, L57, L59, L60, L61, L98, L99, L100, L108, L112, L115, L127, L128, L200, L201, L255, L256, L257, L400, L401, L420, L459, L999, L1000, L5940]
  rw [qck (show a < 7 by omega) (by omega), qck (show b < 7 by omega) (by omega), qcl (by omega), qcl (by omega), hYa.2, hYb.2]
  by_cases c : Y a = Y b
  · right
    exact ⟨fun x hx => decide_eq_false (fun h => h.2.1 c), by rw [if_pos (by rw [c])]⟩
  rw [if_neg (by rw [nI_eq (by omega) (by omega)]; exact c)]
  have key : ∀ d x f, x + d = t → d < f → 1 ≤ x → (∀ z, z < x → hX Y t s a b z = false) →
      (∃ y, 1 ≤ y ∧ y < t ∧ hX Y t s a b y = true ∧ f_X2_spoonsOfLesser_L20 hy (nI a) (nI b) (nI t) (nI s) f (nI x) = some (nI y)) ∨ ((∀ z, z < t → hX Y t s a b z = false) ∧ f_X2_spoonsOfLesser_L20 hy (nI a) (nI b) (nI t) (nI s) f (nI x) = some (nI 0)) := by
    intro d
    induction d with
    | zero =>
      intro x f hx hf h1 h2
      obtain ⟨f, rfl⟩ : ∃ k, f = k + 1 := ⟨f - 1, by omega⟩
      right
      refine ⟨fun z hz => h2 z (by omega), ?_⟩
      show f_X2_spoonsOfLesser_B20 _ _ _ _ _ _ _ = _
      unfold f_X2_spoonsOfLesser_B20
      simp only [L0, L1, L2, L3, L4, L5, L6, L7, L8, L9, L10, L11, L12, L13, L19, L20, L26, L31, L32, L33, L48, L49, L50, L51, L57, L59, L60, L61, L98, L99, L100, L108, L112, L115, L127, L128, L200, L201, L255, L256, L257, L400, L401, L420, L459, L999, L1000, L5940]
      rw [if_pos (nI_le (by omega) (by omega))]
    | succ d ih =>
      intro x f hx hf h1 h2
      obtain ⟨f, rfl⟩ : ∃ k, f = k + 1 := ⟨f - 1, by omega⟩
      have E : f_X2_spoonsOfLesser_L20 hy (nI a) (nI b) (nI t) (nI s) (f + 1) (nI x) = if x * Y a + (t - x) * Y b = s then some (nI x) else f_X2_spoonsOfLesser_L20 hy (nI a) (nI b) (nI t) (nI s) f (nI (x + 1)) := by
        show f_X2_spoonsOfLesser_B20 _ _ _ _ _ _ _ = _
        unfold f_X2_spoonsOfLesser_B20
        simp only [L0, L1, L2, L3, L4, L5, L6, L7, L8, L9, L10, L11, L12, L13, L19, L20, L26, L31, L32, L33, L48, L49, L50, L51, L57, L59, L60, L61, L98, L99, L100, L108, L112, L115, L127, L128, L200, L201, L255, L256, L257, L400, L401, L420, L459, L999, L1000, L5940]
        rw [if_neg (nI_ge (show x < t by omega) (by omega)), qck (show a < 7 by omega) (by omega), qck (show b < 7 by omega) (by omega), qcl (by omega), qcl (by omega), hYa.2, hYb.2, nI_add]
        simp only [eqX (show x < t by omega) ht hs hYa.1 hYb.1]
      rw [E]
      by_cases c2 : x * Y a + (t - x) * Y b = s
      · left
        exact ⟨x, h1, by omega, decide_eq_true ⟨h1, c, c2⟩, by rw [if_pos c2]⟩
      · rw [if_neg c2]
        exact ih (x + 1) f (by omega) (by omega) (by omega) (fun z hz => by
          by_cases e : z = x
          · subst e; exact decide_eq_false (fun h => c2 h.2.2)
          · exact h2 z (by omega))
  exact key (t - 1) 1 FU (by omega) (fu (by omega)) (by omega) (fun z hz => decide_eq_false (fun h => by omega))
def cB' (Y : Nat → Nat) (n t s a : Nat) : Nat := sm (fun b => if a < b then cX Y t s a b else 0) n
def hB (Y : Nat → Nat) (t s a b : Nat) : Option Nat := if a < b then fX Y t s a b else none
theorem fX_lt {Y : Nat → Nat} {t s a b : Nat} (ha : a < 7) (hb : b < 7) (ht : t ≤ 60) : ∀ c, fX Y t s a b = some c → c < 100000 := fuo_lt (fun k hk c e => by
  by_cases h : hX Y t s a b k = true
  · rw [if_pos h] at e; cases e; omega
  · rw [if_neg h] at e; cases e)
theorem hB_lt {Y : Nat → Nat} {t s a n : Nat} (ha : a < 7) (hn : n ≤ 7) (ht : t ≤ 60) : ∀ c, fuo (hB Y t s a) n = some c → c < 100000 := fuo_lt (fun k hk c e => by
  unfold hB at e
  by_cases h : a < k
  · rw [if_pos h] at e; exact fX_lt ha (by omega) ht c e
  · rw [if_neg h] at e; cases e)
theorem or_lt {o p : Option Nat} {B : Nat} (h1 : ∀ c, o = some c → c < B) (h2 : ∀ c, p = some c → c < B) : ∀ c, o.or p = some c → c < B := by
  intro c e
  cases o with
  | none => exact h2 c e
  | some d => exact h1 c e
theorem lupf {β : Type} (S : Nat → Nat → β) (q0 n : Nat) (r : β) (hs : ∀ q f, q0 ≤ q → q < n → S q (f + 1) = S (q + 1) f) (he : ∀ f, S n (f + 1) = r) : ∀ f, q0 ≤ n → n - q0 < f → S q0 f = r := by
  have key : ∀ d q f, q0 ≤ q → q + d = n → d < f → S q f = r := by
    intro d
    induction d with
    | zero =>
      intro q f h0 h hf
      obtain ⟨f, rfl⟩ : ∃ k, f = k + 1 := ⟨f - 1, by omega⟩
      rw [show q = n by omega]
      exact he f
    | succ d ih =>
      intro q f h0 h hf
      obtain ⟨f, rfl⟩ : ∃ k, f = k + 1 := ⟨f - 1, by omega⟩
      rw [hs q f h0 (by omega)]
      exact ih (q + 1) f (by omega) (by omega) (by omega)
  intro f hq hf
  exact key (n - q0) q0 f (Nat.le_refl _) (by omega) (by omega)
theorem q_mix {n t s : Nat} {Y : Nat → Nat} {hy : Nat → Int32} {v3 : Int32} (hn : n ≤ 7) (ht1 : 1 ≤ t) (ht : t ≤ 60) (hs : s ≤ 5940) (hY : ∀ j, j < n → Y j ≤ 99 ∧ hy j = nI (Y j)) :
    f_X7_mix_L42 (nI n) hy (nI t) (nI s) v3 FU (nI 0) (-nI 9) (nI 0) = if v3 = nI 0 then some (nI (sm (cB' Y n t s) n)) else some (fo (fuo (fun a => fuo (hB Y t s a) n) n)) := by
  have hlt : ∀ m, m ≤ n → ∀ c, fuo (fun a => fuo (hB Y t s a) n) m = some c → c < 100000 := fun m hm => fuo_lt (fun k hk c e => hB_lt (by omega) hn ht c e)
  refine lup (fun a f => f_X7_mix_L42 (nI n) hy (nI t) (nI s) v3 f (nI (sm (cB' Y n t s) a)) (fo (fuo (fun a => fuo (hB Y t s a) n) a)) (nI a)) n _ (fun a f ha => ?_) (fun f => ?_) 0 FU (by omega) (fu (by omega))
  · show f_X7_mix_B42 _ _ _ _ _ _ _ _ _ = _
    unfold f_X7_mix_B42
    simp only [L0, L1, L2, L3, L4, L5, L6, L7, L8, L9, L10, L11, L12, L13, L19, L20, L26, L31, L32, L33, L48, L49, L50, L51, L57, L59, L60, L61, L98, L99, L100, L108, L112, L115, L127, L128, L200, L201, L255, L256, L257, L400, L401, L420, L459, L999, L1000, L5940]
    rw [if_neg (nI_ge ha (by omega)), nI_add]
    have z1 : sm (fun b => if a < b then cX Y t s a b else 0) (a + 1) = 0 := sm_z (fun b hb => if_neg (by omega))
    have z2 : fuo (hB Y t s a) (a + 1) = none := fuo_z (fun b hb => if_neg (by omega))
    have L := lupf (fun b f2 => f_X7_mix_L60 (nI n) hy (nI a) (nI t) (nI s) (f_X7_mix_L42 (nI n) hy (nI t) (nI s) v3 f) f2 (nI (sm (cB' Y n t s) a + sm (fun b => if a < b then cX Y t s a b else 0) b)) (fo ((fuo (fun a => fuo (hB Y t s a) n) a).or (fuo (hB Y t s a) b))) (nI b)) (a + 1) n (f_X7_mix_L42 (nI n) hy (nI t) (nI s) v3 f (nI (sm (cB' Y n t s) (a + 1))) (fo (fuo (fun a => fuo (hB Y t s a) n) (a + 1))) (nI (a + 1))) (fun b f2 hb1 hb2 => by
      have hlt2 : ∀ c, (fuo (fun a => fuo (hB Y t s a) n) a).or (fuo (hB Y t s a) b) = some c → c < 2147483648 := fun c e => by
        have := or_lt (hlt a (by omega)) (hB_lt (n := b) (by omega) (by omega) ht) c e
        omega
      show f_X7_mix_B60 _ _ _ _ _ _ _ _ _ _ = _
      unfold f_X7_mix_B60
      simp only [L0, L1, L2, L3, L4, L5, L6, L7, L8, L9, L10, L11, L12, L13, L19, L20, L26, L31, L32, L33, L48, L49, L50, L51, L57, L59, L60, L61, L98, L99, L100, L108, L112, L115, L127, L128, L200, L201, L255, L256, L257, L400, L401, L420, L459, L999, L1000, L5940]
      have e1 : sm (fun b => if a < b then cX Y t s a b else 0) (b + 1) = sm (fun b => if a < b then cX Y t s a b else 0) b + cX Y t s a b := by rw [sm_s, if_pos (by omega)]
      have e2 : fuo (hB Y t s a) (b + 1) = (fuo (hB Y t s a) b).or (fX Y t s a b) := by
        show (fuo (hB Y t s a) b).or (hB Y t s a b) = _
        unfold hB
        rw [if_pos (show a < b by omega)]
      rw [if_neg (nI_ge hb2 (by omega)), e1, e2]
      rcases q_lesser hn ha hb2 ht1 ht hs hY with ⟨x, x1, x2, x3, x4⟩ | ⟨x3, x4⟩
      · obtain ⟨y1, y2⟩ := cX_some x2 x3
        rw [x4, qbd, y1, y2, if_neg (by rw [nI_leI (by omega) (by omega)]; omega), pk_mul, pk_mul, nI_add, nI_add, nI_add, nI_add, ← or_asc, ← fo_or hlt2]
        by_cases c : fo ((fuo (fun a => fuo (hB Y t s a) n) a).or (fuo (hB Y t s a) b)) = -nI 9
        · rw [if_pos c, if_pos c, Nat.add_assoc]
        · rw [if_neg c, if_neg c, Nat.add_assoc]
      · obtain ⟨y1, y2⟩ := cX_none x3
        rw [x4, qbd, y1, y2, if_pos (nI_le (Nat.le_refl _) (by omega)), or_none', nI_add]
        rfl) (fun f2 => by
      show f_X7_mix_B60 _ _ _ _ _ _ _ _ _ _ = _
      unfold f_X7_mix_B60
      simp only [L0, L1, L2, L3, L4, L5, L6, L7, L8, L9, L10, L11, L12, L13, L19, L20, L26, L31, L32, L33, L48, L49, L50, L51, L57, L59, L60, L61, L98, L99, L100, L108, L112, L115, L127, L128, L200, L201, L255, L256, L257, L400, L401, L420, L459, L999, L1000, L5940]
      rw [if_pos (nI_le (Nat.le_refl _) (by omega)), nI_add]
      rfl) FU (by omega) (fu (by omega))
    try dsimp only at L
    rw [z1, z2, or_none', Nat.add_zero] at L
    exact L
  · show f_X7_mix_B42 _ _ _ _ _ _ _ _ _ = _
    unfold f_X7_mix_B42
    simp only [L0, L1, L2, L3, L4, L5, L6, L7, L8, L9, L10, L11, L12, L13, L19, L20, L26, L31, L32, L33, L48, L49, L50, L51, L57, L59, L60, L61, L98, L99, L100, L108, L112, L115, L127, L128, L200, L201, L255, L256, L257, L400, L401, L420, L459, L999, L1000, L5940]
    rw [if_pos (nI_le (Nat.le_refl _) (by omega))]
theorem q_mmix76 {n t s a b : Nat} {Y : Nat → Nat} {td : Nat → Int32} {k64 : Int32 → Int32 → Int32 → Option Int32} (hn : n ≤ 7) (ha : a < n) (hb : b < n) (ht : t ≤ 60) (hs : s ≤ 5940) (hY : ∀ j, j < n → Y j ≤ 99 ∧ td (5 + j) = nI (Y j)) :
    ∀ x f cn (D : Option Nat), x < t → x < f → f_X8_mix_L76 td (nI a) (nI b) (nI t) (nI s) k64 f (nI cn) (fo D) (nI x) = k64 (nI (cn + sm (fun x => if hX Y t s a b x = true then 1 else 0) (x + 1))) (fo ((fuo (fun x => if hX Y t s a b x = true then some (1000 * a + 100 * b + x) else none) (x + 1)).or D)) (nI b + -nI 1) := by
  have hYa := hY a ha
  have hYb := hY b hb
  intro x
  induction x with
  | zero =>
    intro f cn D hx hf
    obtain ⟨f, rfl⟩ : ∃ k, f = k + 1 := ⟨f - 1, by omega⟩
    have h0 : hX Y t s a b 0 = false := decide_eq_false (fun h => by omega)
    show f_X8_mix_B76 _ _ _ _ _ _ _ _ _ _ = k64 (nI (cn + (0 + if hX Y t s a b 0 = true then 1 else 0))) (fo (((none : Option Nat).or (if hX Y t s a b 0 = true then some (1000 * a + 100 * b + 0) else none)).or D)) _
    unfold f_X8_mix_B76
    simp only [L0, L1, L2, L3, L4, L5, L6, L7, L8, L9, L10, L11, L12, L13, L19, L20, L26, L31, L32, L33, L48, L49, L50, L51, L57, L59, L60, L61, L98, L99, L100, L108, L112, L115, L127, L128, L200, L201, L255, L256, L257, L400, L401, L420, L459, L999, L1000, L5940]
    rw [if_pos (nI_le (Nat.le_refl _) (by omega)), h0, if_neg (by decide), if_neg (by decide)]
    rfl
  | succ x ih =>
    intro f cn D hx hf
    obtain ⟨f, rfl⟩ : ∃ k, f = k + 1 := ⟨f - 1, by omega⟩
    have E0 : f_X8_mix_J138 (nI a) (nI b) (nI cn) (fo D) (nI (x + 1)) (f_X8_mix_L76 td (nI a) (nI b) (nI t) (nI s) k64 f) (nI 0) = f_X8_mix_L76 td (nI a) (nI b) (nI t) (nI s) k64 f (nI cn) (fo D) (nI x) := by
      unfold f_X8_mix_J138 f_X8_mix_J152
      simp only [L0, L1, L2, L3, L4, L5, L6, L7, L8, L9, L10, L11, L12, L13, L19, L20, L26, L31, L32, L33, L48, L49, L50, L51, L57, L59, L60, L61, L98, L99, L100, L108, L112, L115, L127, L128, L200, L201, L255, L256, L257, L400, L401, L420, L459, L999, L1000, L5940]
      rw [if_pos trivial, if_pos trivial, nI_add, dnI_s]
      rfl
    have E1 : f_X8_mix_J138 (nI a) (nI b) (nI cn) (fo D) (nI (x + 1)) (f_X8_mix_L76 td (nI a) (nI b) (nI t) (nI s) k64 f) (nI 1) = f_X8_mix_L76 td (nI a) (nI b) (nI t) (nI s) k64 f (nI (cn + 1)) (fo (some (1000 * a + 100 * b + (x + 1)))) (nI x) := by
      unfold f_X8_mix_J138 f_X8_mix_J152
      simp only [L0, L1, L2, L3, L4, L5, L6, L7, L8, L9, L10, L11, L12, L13, L19, L20, L26, L31, L32, L33, L48, L49, L50, L51, L57, L59, L60, L61, L98, L99, L100, L108, L112, L115, L127, L128, L200, L201, L255, L256, L257, L400, L401, L420, L459, L999, L1000, L5940]
      rw [if_neg (show ¬ nI 1 = nI 0 by decide), if_neg (show ¬ nI 1 = nI 0 by decide), nI_add, dnI_s, pk_mul, pk_mul, nI_add, nI_add]
      rfl
    have e1 : sm (fun x => if hX Y t s a b x = true then 1 else 0) (x + 1 + 1) = sm (fun x => if hX Y t s a b x = true then 1 else 0) (x + 1) + (if hX Y t s a b (x + 1) = true then 1 else 0) := rfl
    have e2 : fuo (fun x => if hX Y t s a b x = true then some (1000 * a + 100 * b + x) else none) (x + 1 + 1) = (fuo (fun x => if hX Y t s a b x = true then some (1000 * a + 100 * b + x) else none) (x + 1)).or (if hX Y t s a b (x + 1) = true then some (1000 * a + 100 * b + (x + 1)) else none) := rfl
    rw [e1, e2]
    show f_X8_mix_B76 _ _ _ _ _ _ _ _ _ _ = _
    unfold f_X8_mix_B76
    simp only [L0, L1, L2, L3, L4, L5, L6, L7, L8, L9, L10, L11, L12, L13, L19, L20, L26, L31, L32, L33, L48, L49, L50, L51, L57, L59, L60, L61, L98, L99, L100, L108, L112, L115, L127, L128, L200, L201, L255, L256, L257, L400, L401, L420, L459, L999, L1000, L5940]
    rw [if_neg (by rw [nI_leI (by omega) (by omega)]; omega), nI_add, nI_add, qck (show 5 + a < 33 by omega) (by omega), qck (show 5 + b < 33 by omega) (by omega), qck (show 5 + a < 33 by omega) (by omega), qck (show 5 + b < 33 by omega) (by omega), qcl (by omega), qcl (by omega), hYa.2, hYb.2, E0, E1]
    simp only [eqX (show x + 1 < t by omega) ht hs hYa.1 hYb.1]
    by_cases c : Y a = Y b
    · have h0 : hX Y t s a b (x + 1) = false := decide_eq_false (fun h => h.2.1 c)
      rw [if_pos (by rw [c]), h0, if_neg (by decide), if_neg (by decide), or_none']
      exact ih f cn D (by omega) (by omega)
    · rw [if_neg (by rw [nI_eq (by omega) (by omega)]; exact c)]
      by_cases c2 : (x + 1) * Y a + (t - (x + 1)) * Y b = s
      · have h1 : hX Y t s a b (x + 1) = true := decide_eq_true ⟨by omega, c, c2⟩
        rw [if_pos c2, h1, if_pos rfl, if_pos rfl, ih f (cn + 1) _ (by omega) (by omega), or_asc]
        congr 2
        omega
      · have h0 : hX Y t s a b (x + 1) = false := decide_eq_false (fun h => c2 h.2.2)
        rw [if_neg c2, h0, if_neg (by decide), if_neg (by decide), or_none']
        exact ih f cn D (by omega) (by omega)
theorem q_mmix64 {n t s a : Nat} {Y : Nat → Nat} {td : Nat → Int32} {k49 : Int32 → Int32 → Int32 → Option Int32} (hn : n ≤ 7) (ha : a < n) (ht1 : 1 ≤ t) (ht : t ≤ 60) (hs : s ≤ 5940) (hY : ∀ j, j < n → Y j ≤ 99 ∧ td (5 + j) = nI (Y j)) :
    ∀ d f cn (D : Option Nat), a + d < n → d < f → f_X8_mix_L64 td (nI a) (nI t) (nI s) k49 f (nI cn) (fo D) (nI (a + d)) = k49 (nI (cn + sm (fun b => if a < b then cX Y t s a b else 0) (a + d + 1))) (fo ((fuo (hB Y t s a) (a + d + 1)).or D)) (nI a + -nI 1) := by
  intro d
  induction d with
  | zero =>
    intro f cn D hd hf
    obtain ⟨f, rfl⟩ : ∃ k, f = k + 1 := ⟨f - 1, by omega⟩
    show f_X8_mix_B64 _ _ _ _ _ _ _ _ _ = _
    unfold f_X8_mix_B64
    simp only [L0, L1, L2, L3, L4, L5, L6, L7, L8, L9, L10, L11, L12, L13, L19, L20, L26, L31, L32, L33, L48, L49, L50, L51, L57, L59, L60, L61, L98, L99, L100, L108, L112, L115, L127, L128, L200, L201, L255, L256, L257, L400, L401, L420, L459, L999, L1000, L5940]
    rw [if_pos (show nI (a + 0) ≤ nI a from nI_le (Nat.le_refl _) (by omega)), show sm (fun b => if a < b then cX Y t s a b else 0) (a + 0 + 1) = 0 from sm_z (fun b hb => if_neg (by omega)), show fuo (hB Y t s a) (a + 0 + 1) = none from fuo_z (fun b hb => if_neg (by omega))]
    rfl
  | succ d ih =>
    intro f cn D hd hf
    obtain ⟨f, rfl⟩ : ∃ k, f = k + 1 := ⟨f - 1, by omega⟩
    show f_X8_mix_B64 _ _ _ _ _ _ _ _ _ = _
    unfold f_X8_mix_B64
    simp only [L0, L1, L2, L3, L4, L5, L6, L7, L8, L9, L10, L11, L12, L13, L19, L20, L26, L31, L32, L33, L48, L49, L50, L51, L57, L59, L60, L61, L98, L99, L100, L108, L112, L115, L127, L128, L200, L201, L255, L256, L257, L400, L401, L420, L459, L999, L1000, L5940]
    have e1 : sm (fun b => if a < b then cX Y t s a b else 0) (a + (d + 1) + 1) = sm (fun b => if a < b then cX Y t s a b else 0) (a + d + 1) + cX Y t s a (a + (d + 1)) := by
      rw [sm_s, if_pos (by omega)]
      rfl
    have e2 : fuo (hB Y t s a) (a + (d + 1) + 1) = (fuo (hB Y t s a) (a + d + 1)).or (fX Y t s a (a + (d + 1))) := by
      show (fuo (hB Y t s a) (a + (d + 1))).or (hB Y t s a (a + (d + 1))) = _
      unfold hB
      rw [if_pos (show a < a + (d + 1) by omega)]
      rfl
    rw [if_neg (by rw [nI_leI (by omega) (by omega)]; omega), qsub ht1, q_mmix76 (Y := Y) hn ha hd ht hs hY (t - 1) FU cn D (by omega) (fu (by omega)), dnI_s, show t - 1 + 1 = t by omega]
    show f_X8_mix_L64 td (nI a) (nI t) (nI s) k49 f (nI (cn + cX Y t s a (a + (d + 1)))) (fo ((fX Y t s a (a + (d + 1))).or D)) (nI (a + d)) = _
    rw [ih f _ _ (by omega) (by omega), e1, e2, or_asc]
    congr 2
    omega
theorem q_mmix {n t s : Nat} {Y : Nat → Nat} {td : Nat → Int32} {v3 : Int32} (hn : n ≤ 7) (h0 : td 0 = nI n) (ht1 : 1 ≤ t) (ht : t ≤ 60) (hs : s ≤ 5940) (hY : ∀ j, j < n → Y j ≤ 99 ∧ td (5 + j) = nI (Y j)) :
    ∀ c f cn (D : Option Nat), c ≤ n → c < f → f_X8_mix_L49 td (nI t) (nI s) v3 f (nI cn) (fo D) (dnI c) = if v3 = nI 0 then some (nI (cn + sm (cB' Y n t s) c)) else some (fo ((fuo (fun a => fuo (hB Y t s a) n) c).or D)) := by
  intro c
  induction c with
  | zero =>
    intro f cn D hc hf
    obtain ⟨f, rfl⟩ : ∃ k, f = k + 1 := ⟨f - 1, by omega⟩
    show f_X8_mix_B49 _ _ _ _ _ _ _ _ = _
    unfold f_X8_mix_B49
    simp only [L0, L1, L2, L3, L4, L5, L6, L7, L8, L9, L10, L11, L12, L13, L19, L20, L26, L31, L32, L33, L48, L49, L50, L51, L57, L59, L60, L61, L98, L99, L100, L108, L112, L115, L127, L128, L200, L201, L255, L256, L257, L400, L401, L420, L459, L999, L1000, L5940]
    rw [if_pos dnI_0]
    rfl
  | succ c ih =>
    intro f cn D hc hf
    obtain ⟨f, rfl⟩ : ∃ k, f = k + 1 := ⟨f - 1, by omega⟩
    show f_X8_mix_B49 _ _ _ _ _ _ _ _ = _
    unfold f_X8_mix_B49
    simp only [L0, L1, L2, L3, L4, L5, L6, L7, L8, L9, L10, L11, L12, L13, L19, L20, L26, L31, L32, L33, L48, L49, L50, L51, L57, L59, L60, L61, L98, L99, L100, L108, L112, L115, L127, L128, L200, L201, L255, L256, L257, L400, L401, L420, L459, L999, L1000, L5940]
    rw [if_neg (dnI_p c (by omega)), qck (by omega) (by omega), qcl (by omega), h0, qsub (by omega)]
    show f_X8_mix_L64 td (nI c) (nI t) (nI s) _ FU (nI cn) (fo D) (nI (n - 1)) = _
    rw [show n - 1 = c + (n - 1 - c) by omega, q_mmix64 (Y := Y) hn (show c < n by omega) ht1 ht hs hY (n - 1 - c) FU cn D (by omega) (fu (by omega)), dnI_s, ih f _ _ (by omega) (by omega), show c + (n - 1 - c) + 1 = n by omega]
    have e1 : cn + sm (fun b => if c < b then cX Y t s c b else 0) n + sm (cB' Y n t s) c = cn + sm (cB' Y n t s) (c + 1) := by
      rw [sm_s]
      unfold cB'
      omega
    have e2 : (fuo (fun a => fuo (hB Y t s a) n) (c + 1)).or D = (fuo (fun a => fuo (hB Y t s a) n) c).or ((fuo (hB Y t s c) n).or D) := or_asc _ _ _
    rw [e1, e2]
theorem sim_mix {n : Nat} {Y K T : Nat → Nat} {le sh : Nat} {hp hl hs : Int32} {hy hk ht hb td : Nat → Int32} (h : RH n Y K T le sh hp hl hs hy hk ht hb td) (v1 v2 v3 : Int32) : ∃ o, f_X7_mix hp hy v1 v2 v3 = some o ∧ f_X8_mix td v1 v2 v3 = some o := by
  obtain ⟨hn, hle, -, rfl, e0, -, -, -, -, hj, -⟩ := h
  unfold f_X7_mix f_X8_mix
  simp only [L0, L1, L2, L3, L4, L5, L6, L7, L8, L9, L10, L11, L12, L13, L19, L20, L26, L31, L32, L33, L48, L49, L50, L51, L57, L59, L60, L61, L98, L99, L100, L108, L112, L115, L127, L128, L200, L201, L255, L256, L257, L400, L401, L420, L459, L999, L1000, L5940]
  rcases in_cases v1 (a := 1) (b := 60) (by omega) (by omega) with ⟨e1, e2⟩ | ⟨t, ht1, ht2, rfl, e1, e2⟩
  · rw [e1, e2]
    simp (disch := omega) only [L0, L1, L2, L3, L4, L5, L6, L7, L8, L9, L10, L11, L12, L13, L19, L20, L26, L31, L32, L33, L48, L49, L50, L51, L57, L59, L60, L61, L98, L99, L100, L108, L112, L115, L127, L128, L200, L201, L255, L256, L257, L400, L401, L420, L459, L999, L1000, L5940, nI_add, pk_mul, qle, qlt, qeq, qcl, qck, qbd, qsub, if_pos, if_neg]
    exact ⟨_, rfl, rfl⟩
  rw [e1, e2]
  rcases in_cases v2 (a := 0) (b := 5940) (by omega) (by omega) with ⟨e3, e4⟩ | ⟨s, -, hs2, rfl, e3, e4⟩
  · rw [e3, e4]
    simp (disch := omega) only [L0, L1, L2, L3, L4, L5, L6, L7, L8, L9, L10, L11, L12, L13, L19, L20, L26, L31, L32, L33, L48, L49, L50, L51, L57, L59, L60, L61, L98, L99, L100, L108, L112, L115, L127, L128, L200, L201, L255, L256, L257, L400, L401, L420, L459, L999, L1000, L5940, nI_add, pk_mul, qle, qlt, qeq, qcl, qck, qbd, qsub, if_pos, if_neg]
    exact ⟨_, rfl, rfl⟩
  rw [e3, e4]
  rcases in_cases v3 (a := 0) (b := 1) (by omega) (by omega) with ⟨e5, e6⟩ | ⟨w, -, hw2, rfl, e5, e6⟩
  · rw [e5, e6]
    simp (disch := omega) only [L0, L1, L2, L3, L4, L5, L6, L7, L8, L9, L10, L11, L12, L13, L19, L20, L26, L31, L32, L33, L48, L49, L50, L51, L57, L59, L60, L61, L98, L99, L100, L108, L112, L115, L127, L128, L200, L201, L255, L256, L257, L400, L401, L420, L459, L999, L1000, L5940, nI_add, pk_mul, qle, qlt, qeq, qcl, qck, qbd, qsub, if_pos, if_neg]
    exact ⟨_, rfl, rfl⟩
  have hm := q_mmix (Y := Y) (v3 := nI w) hn e0 ht1 ht2 hs2 (fun j hj2 => ⟨(hj j hj2).1, (hj j hj2).2.2.2.2.1⟩) n FU 0 none (Nat.le_refl _) (fu (by omega))
  have hd : td (nI 0).toNatClampNeg - nI 1 = dnI n := by
    rw [qcl (by omega), e0]
    cases n with
    | zero => decide
    | succ n => rw [qsub (by omega)]; rfl
  rw [e5, e6, q_mix (Y := Y) hn ht1 ht2 hs2 (fun j hj2 => ⟨(hj j hj2).1, (hj j hj2).2.2.2.1⟩), qck (by omega) (by omega), hd]
  simp only [qbd]
  rw [if_neg (show ¬ nI 1 = nI 0 by decide), if_neg (show ¬ nI 1 = nI 0 by decide)]
  have hm2 : f_X8_mix_L49 td (nI t) (nI s) (nI w) FU (nI 0) (-nI 9) (dnI n) = if nI w = nI 0 then some (nI (sm (cB' Y n t s) n)) else some (fo (fuo (fun a => fuo (hB Y t s a) n) n)) := by
    rw [Nat.zero_add, or_none'] at hm
    exact hm
  simp only [if_neg (show ¬ nI 1 = nI 0 by decide)]
  rw [hm2]
  by_cases c : nI w = nI 0
  · rw [if_pos c]; exact ⟨_, rfl, rfl⟩
  · rw [if_neg c]; exact ⟨_, rfl, rfl⟩
