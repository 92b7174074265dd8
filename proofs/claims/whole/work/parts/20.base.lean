/-! numbers -/
theorem L0 : (0 : Int32) = nI 0 := id rfl
theorem L1 : (1 : Int32) = nI 1 := id rfl
theorem L2 : (2 : Int32) = nI 2 := id rfl
theorem L3 : (3 : Int32) = nI 3 := id rfl
theorem L4 : (4 : Int32) = nI 4 := id rfl
theorem L5 : (5 : Int32) = nI 5 := id rfl
theorem L6 : (6 : Int32) = nI 6 := id rfl
theorem L7 : (7 : Int32) = nI 7 := id rfl
theorem L8 : (8 : Int32) = nI 8 := id rfl
theorem L9 : (9 : Int32) = nI 9 := id rfl
theorem L10 : (10 : Int32) = nI 10 := id rfl
theorem L11 : (11 : Int32) = nI 11 := id rfl
theorem L12 : (12 : Int32) = nI 12 := id rfl
theorem L13 : (13 : Int32) = nI 13 := id rfl
theorem L19 : (19 : Int32) = nI 19 := id rfl
theorem L20 : (20 : Int32) = nI 20 := id rfl
theorem L26 : (26 : Int32) = nI 26 := id rfl
theorem L31 : (31 : Int32) = nI 31 := id rfl
theorem L32 : (32 : Int32) = nI 32 := id rfl
theorem L33 : (33 : Int32) = nI 33 := id rfl
theorem L48 : (48 : Int32) = nI 48 := id rfl
theorem L49 : (49 : Int32) = nI 49 := id rfl
theorem L50 : (50 : Int32) = nI 50 := id rfl
theorem L51 : (51 : Int32) = nI 51 := id rfl
theorem L57 : (57 : Int32) = nI 57 := id rfl
theorem L59 : (59 : Int32) = nI 59 := id rfl
theorem L60 : (60 : Int32) = nI 60 := id rfl
theorem L61 : (61 : Int32) = nI 61 := id rfl
theorem L98 : (98 : Int32) = nI 98 := id rfl
theorem L99 : (99 : Int32) = nI 99 := id rfl
theorem L100 : (100 : Int32) = nI 100 := id rfl
theorem L108 : (108 : Int32) = nI 108 := id rfl
theorem L112 : (112 : Int32) = nI 112 := id rfl
theorem L115 : (115 : Int32) = nI 115 := id rfl
theorem L127 : (127 : Int32) = nI 127 := id rfl
theorem L128 : (128 : Int32) = nI 128 := id rfl
theorem L200 : (200 : Int32) = nI 200 := id rfl
theorem L201 : (201 : Int32) = nI 201 := id rfl
theorem L255 : (255 : Int32) = nI 255 := id rfl
theorem L256 : (256 : Int32) = nI 256 := id rfl
theorem L257 : (257 : Int32) = nI 257 := id rfl
theorem L400 : (400 : Int32) = nI 400 := id rfl
theorem L401 : (401 : Int32) = nI 401 := id rfl
theorem L420 : (420 : Int32) = nI 420 := id rfl
theorem L459 : (459 : Int32) = nI 459 := id rfl
theorem L999 : (999 : Int32) = nI 999 := id rfl
theorem L1000 : (1000 : Int32) = nI 1000 := id rfl
theorem L5940 : (5940 : Int32) = nI 5940 := id rfl
theorem nlt31 {n : Nat} (h : n < 2147483648) : n < 2 ^ 31 := h
theorem qle {a b : Nat} (ha : a < 2147483648) (hb : b < 2147483648) : (nI a ≤ nI b) = (a ≤ b) := propext (nI_leI ha hb)
theorem qlt {a b : Nat} (ha : a < 2147483648) (hb : b < 2147483648) : (nI a < nI b) = (a < b) := propext (nI_ltI ha hb)
theorem qeq {a b : Nat} (ha : a < 2147483648) (hb : b < 2147483648) : (nI a = nI b) = (a = b) := propext (nI_eq ha hb)
theorem qcl {a : Nat} (ha : a < 2147483648) : (nI a).toNatClampNeg = a := nI_clamp ha
theorem qix {i n : Nat} (h : i < n) (hn : n < 2147483648) : ix (nI i) n = true := decide_eq_true (by rw [nI_toInt (Nat.lt_trans h hn)]; omega)
theorem qck {α : Type} {i n : Nat} {k : Option α} (h : i < n) (hn : n < 2147483648) : ck (ix (nI i) n) k = k := ck_t (qix h hn)
theorem qbd {α β : Type} {a : α} {f : α → Option β} : bd (some a) f = f a := rfl
theorem qsub {a b : Nat} (h : b ≤ a) : nI a - nI b = nI (a - b) := pk_sub h
theorem qnz {i : Nat} (h : 0 < i) (hn : i < 2147483648) : nz (nI i) = true := decide_eq_true (by rw [show (0 : Int32) = nI 0 from rfl, nI_eq hn (by omega)]; omega)
theorem qu_s {f : Nat → Int32} {k : Nat} {x : Int32} : upd f k x k = x := if_pos rfl
theorem qu_n {f : Nat → Int32} {k j : Nat} {x : Int32} (h : j ≠ k) : upd f k x j = f j := if_neg h
theorem qv_s {α : Type} {f : Nat → α} {k : Nat} {x : α} : va_up f k x k = x := if_pos rfl
theorem qv_n {α : Type} {f : Nat → α} {k j : Nat} {x : α} (h : j ≠ k) : va_up f k x j = f j := if_neg h
/-- a whole number as an int -/
def zI (z : Int) : Int32 := Int32.ofInt z
theorem zI_nat (n : Nat) : zI (n : Int) = nI n := rfl
/-! loops: a state for every place -/
theorem lup {β : Type} (S : Nat → Nat → β) (n : Nat) (r : β) (hs : ∀ q f, q < n → S q (f + 1) = S (q + 1) f) (he : ∀ f, S n (f + 1) = r) : ∀ q f, q ≤ n → n - q < f → S q f = r := by
  have key : ∀ d q f, q + d = n → d < f → S q f = r := by
    intro d
    induction d with
    | zero =>
      intro q f h hf
      obtain ⟨f, rfl⟩ : ∃ k, f = k + 1 := ⟨f - 1, by omega⟩
      rw [show q = n by omega]
      exact he f
    | succ d ih =>
      intro q f h hf
      obtain ⟨f, rfl⟩ : ∃ k, f = k + 1 := ⟨f - 1, by omega⟩
      rw [hs q f (by omega)]
      exact ih (q + 1) f (by omega) (by omega)
  intro q f hq hf
  exact key (n - q) q f (by omega) (by omega)
/-- with a way out -/
theorem lupo {β : Type} (S : Nat → Nat → β) (n : Nat) (r : β) (hs : ∀ q f, q < n → S q (f + 1) = S (q + 1) f ∨ S q (f + 1) = r) (he : ∀ f, S n (f + 1) = r) : ∀ q f, q ≤ n → n - q < f → S q f = r := by
  have key : ∀ d q f, q + d = n → d < f → S q f = r := by
    intro d
    induction d with
    | zero =>
      intro q f h hf
      obtain ⟨f, rfl⟩ : ∃ k, f = k + 1 := ⟨f - 1, by omega⟩
      rw [show q = n by omega]
      exact he f
    | succ d ih =>
      intro q f h hf
      obtain ⟨f, rfl⟩ : ∃ k, f = k + 1 := ⟨f - 1, by omega⟩
      rcases hs q f (by omega) with e | e
      · rw [e]
        exact ih (q + 1) f (by omega) (by omega)
      · exact e
  intro q f hq hf
  exact key (n - q) q f (by omega) (by omega)
/-- downwards -/
theorem ldn {β : Type} (S : Nat → Nat → β) (r : β) (hs : ∀ q f, S (q + 1) (f + 1) = S q f) (he : ∀ f, S 0 (f + 1) = r) : ∀ q f, q < f → S q f = r := by
  intro q
  induction q with
  | zero =>
    intro f h
    obtain ⟨f, rfl⟩ : ∃ k, f = k + 1 := ⟨f - 1, by omega⟩
    exact he f
  | succ q ih =>
    intro f h
    obtain ⟨f, rfl⟩ : ∃ k, f = k + 1 := ⟨f - 1, by omega⟩
    rw [hs]
    exact ih f (by omega)
theorem fu {n : Nat} (h : n < 1000) : n < FU := h
/-! sums -/
def sm (f : Nat → Nat) : Nat → Nat
  | 0 => 0
  | n + 1 => sm f n + f n
theorem sm_s (f : Nat → Nat) (n : Nat) : sm f (n + 1) = sm f n + f n := rfl
theorem sm_cong {f g : Nat → Nat} : ∀ {n : Nat}, (∀ k, k < n → f k = g k) → sm f n = sm g n
  | 0, _ => rfl
  | n + 1, h => by rw [sm_s, sm_s, sm_cong (fun k hk => h k (by omega)), h n (by omega)]
theorem sm_le {f g : Nat → Nat} : ∀ {n : Nat}, (∀ k, k < n → f k ≤ g k) → sm f n ≤ sm g n
  | 0, _ => Nat.le_refl _
  | n + 1, h => by
    have h1 := sm_le (n := n) (fun k hk => h k (by omega))
    have h2 := h n (by omega)
    rw [sm_s, sm_s]; omega
theorem sm_z {f : Nat → Nat} : ∀ {n : Nat}, (∀ k, k < n → f k = 0) → sm f n = 0
  | 0, _ => rfl
  | n + 1, h => by rw [sm_s, sm_z (fun k hk => h k (by omega)), h n (by omega)]
theorem sm_mono (f : Nat → Nat) {m : Nat} : ∀ {n : Nat}, m ≤ n → sm f m ≤ sm f n
  | 0, h => by rw [show m = 0 by omega]; exact Nat.le_refl _
  | n + 1, h => by
    by_cases e : m = n + 1
    · rw [e]; exact Nat.le_refl _
    · have h1 := sm_mono f (m := m) (n := n) (by omega)
      rw [sm_s]; omega
theorem sm_el (f : Nat → Nat) {i n : Nat} (h : i < n) : f i ≤ sm f n := by
  have h1 := sm_mono f (show i + 1 ≤ n from h)
  rw [sm_s] at h1; omega
theorem sm_add (f g : Nat → Nat) : ∀ n, sm (fun k => f k + g k) n = sm f n + sm g n
  | 0 => rfl
  | n + 1 => by rw [sm_s, sm_s, sm_s, sm_add f g n]; omega
theorem sm_ext (f : Nat → Nat) {m n : Nat} (h : m ≤ n) (hz : ∀ k, m ≤ k → k < n → f k = 0) : sm f n = sm f m := by
  induction n with
  | zero => rw [show m = 0 by omega]
  | succ n ih =>
    by_cases e : m = n + 1
    · rw [e]
    · rw [sm_s, ih (by omega) (fun k h1 h2 => hz k h1 (by omega)), hz n (by omega) (by omega)]; omega
/-- one term more, the others as they were -/
theorem sm_one (f g : Nat → Nat) {i : Nat} : ∀ {n : Nat}, i < n → (∀ k, k < n → k ≠ i → g k = f k) → sm g n + f i = sm f n + g i
  | 0, h, _ => absurd h (Nat.not_lt_zero i)
  | n + 1, h, hh => by
    rw [sm_s, sm_s]
    by_cases e : i = n
    · subst e
      rw [sm_cong (f := g) (g := f) (fun k hk => hh k (by omega) (by omega))]; omega
    · have h1 := sm_one f g (i := i) (n := n) (by omega) (fun k hk hne => hh k (by omega) hne)
      have h2 := hh n (by omega) (fun e2 => e e2.symm)
      omega
theorem sm_split (f : Nat → Nat) (m : Nat) : ∀ n, sm f (m + n) = sm f m + sm (fun k => f (m + k)) n
  | 0 => rfl
  | n + 1 => by
    have h := sm_split f m n
    rw [show m + (n + 1) = (m + n) + 1 from rfl, sm_s, sm_s, h]
    omega
