/-! thefts -/
def lo (h : Nat → Nat) : Nat → Nat
  | 0 => 0
  | n + 1 => lo h n ||| h n
theorem lo_ext {h : Nat → Nat} {m : Nat} : ∀ {n : Nat}, m ≤ n → (∀ k, m ≤ k → k < n → h k = 0) → lo h n = lo h m
  | 0, hm, _ => by rw [show m = 0 by omega]
  | n + 1, hm, hz => by
    by_cases e : m = n + 1
    · rw [e]
    · show lo h n ||| h n = _
      rw [lo_ext (n := n) (by omega) (fun k h1 h2 => hz k h1 (by omega)), hz n (by omega) (by omega), Nat.or_zero]
theorem fuo_ext {h : Nat → Option Nat} {m : Nat} : ∀ {n : Nat}, m ≤ n → (∀ k, m ≤ k → k < n → h k = none) → fuo h n = fuo h m
  | 0, hm, _ => by rw [show m = 0 by omega]
  | n + 1, hm, hz => by
    by_cases e : m = n + 1
    · rw [e]
    · show (fuo h n).or (h n) = _
      rw [fuo_ext (n := n) (by omega) (fun k h1 h2 => hz k h1 (by omega)), hz n (by omega) (by omega), or_none']
/-- one level, of a pan from which k were stolen -/
def so1 (G K A B V : Nat → Nat) (i : Nat) : Bool := decide (tot G (B i) - A i * K (B i) = V i)
def soN (T : Nat → Bool) : Nat → Bool
  | 0 => true
  | c + 1 => soN T c && T c
theorem soN_false {T : Nat → Bool} : ∀ {c i : Nat}, i < c → T i = false → soN T c = false
  | 0, i, h, _ => absurd h (by omega)
  | c + 1, i, h, e => by
    show (soN T c && T c) = false
    by_cases q : i = c
    · subst q; rw [e, Bool.and_false]
    · rw [soN_false (i := i) (by omega) e, Bool.false_and]
theorem soN_cong {T U : Nat → Bool} : ∀ {c : Nat}, (∀ i, i < c → T i = U i) → soN T c = soN U c
  | 0, _ => rfl
  | c + 1, h => by
    show (soN T c && T c) = (soN U c && U c)
    rw [soN_cong (fun i hi => h i (by omega)), h c (by omega)]
theorem tot_gone {n k p : Nat} {Y o g : Nat → Nat} (hn : n ≤ 7) (ho : srt n Y o) (hp : p < n) (hv : vg n g) {q : Nat} (hq : q < 7) : tot (gone Y n k p g) q = tot g q - (if q = p then k else 0) := by
  by_cases e : q = p
  · subst e
    rw [if_pos rfl, ← tot_n hn (vg_z (vg_gone hv Y k q) hq), ← tot_n hn (vg_z hv hq), sm_cong (f := fun x => gone Y n k q g (7 * q + x)) (g := rs Y n k (fun x => g (7 * q + x))) (fun x hx => gone_in Y k q g hn hx)]
    exact rs_sm ho _ _
  · rw [if_neg e, Nat.sub_zero]
    unfold tot
    exact sm_cong (fun x hx => gone_out Y k p g (by omega))
theorem q_levelsSo {n c p k : Nat} {g K A B V : Nat → Nat} {sp hk tsp tpa tv : Nat → Int32} (hn : n ≤ 7) (hc : c ≤ 5) (hp : p < n) (hk1 : k ≤ tot g p) (hs : ∀ x, x < 49 → sp x = nI (g x)) (hv : vg n g) (hK : ∀ j, j < n → K j ≤ 9 ∧ hk j = nI (K j)) (hh : ∀ i, i < c → A i ≤ 60 ∧ B i < n ∧ V i ≤ 420 ∧ tsp i = nI (A i) ∧ tpa i = nI (B i) ∧ tv i = nI (V i)) :
    f_X7_areLevelsSo (nI c) tpa (nI n) sp tsp hk tv (nI p) (nI k) = some (bI (soN (fun i => decide ((tot g (B i) - (if B i = p then k else 0)) - A i * K (B i) = V i)) c)) := by
  unfold f_X7_areLevelsSo
  simp only [L0, L1, L2, L3, L4, L5, L6, L7, L8, L9, L10, L11, L12, L13, L19, L20, L26, L31, L32, L33, L48, L49, L50, L51, L57, L59, L60, L61, L98, L99, L100, L108, L112, L115, L127, L128, L200, L201, L255, L256, L257, L400, L401, L420, L459, L999, L1000, L5940]
  have hst : ∀ i f, i < c → f_X7_areLevelsSo_L2 (nI c) tpa (nI n) sp tsp hk tv (nI p) (nI k) (f + 1) (nI i) = if (tot g (B i) - (if B i = p then k else 0)) - A i * K (B i) = V i then f_X7_areLevelsSo_L2 (nI c) tpa (nI n) sp tsp hk tv (nI p) (nI k) f (nI (i + 1)) else some (nI 0) := by
    intro i f hi
    obtain ⟨a1, a2, a3, a4, a5, a6⟩ := hh i hi
    have hT : tot g (B i) ≤ 420 := Nat.le_trans (tot_le (by omega)) hv.1
    have hq : ∀ d, d ≤ tot g (B i) → f_X7_afterSprings hk (nI (tot g (B i)) - nI d) (nI (A i)) (nI (B i)) = some (nI ((tot g (B i) - d) - A i * K (B i))) := fun d hd => by
      rw [qsub hd]
      exact q_after (K := K) (by omega) (hK (B i) a2) (by omega) (by omega)
    show f_X7_areLevelsSo_B2 _ _ _ _ _ _ _ _ _ _ _ = _
    unfold f_X7_areLevelsSo_B2 f_X7_areLevelsSo_J44
    simp only [L0, L1, L2, L3, L4, L5, L6, L7, L8, L9, L10, L11, L12, L13, L19, L20, L26, L31, L32, L33, L48, L49, L50, L51, L57, L59, L60, L61, L98, L99, L100, L108, L112, L115, L127, L128, L200, L201, L255, L256, L257, L400, L401, L420, L459, L999, L1000, L5940]
    rw [if_neg (nI_ge hi (by omega))]
    simp only [qck (show i < 5 by omega) (show (5 : Nat) < 2147483648 by omega)]
    rw [qcl (by omega), a5, q_inPan hs hn (by omega) (vg_z hv (by omega)), qbd, a4, a6, hq 0 (Nat.zero_le _), nI_add]
    by_cases e : B i = p
    · have hq2 := hq k (by rw [e]; exact hk1)
      rw [if_pos (show nI (B i) = nI p by rw [e]), hq2, qbd, if_pos e]
      simp only [qeq (show tot g (B i) - k - A i * K (B i) < 2147483648 by omega) (show V i < 2147483648 by omega)]
    · rw [if_neg (show ¬ nI (B i) = nI p by rw [nI_eq (by omega) (by omega)]; exact e), qbd, if_neg e]
      simp only [qeq (show tot g (B i) - 0 - A i * K (B i) < 2147483648 by omega) (show V i < 2147483648 by omega)]
  have key : ∀ d i f, i + d = c → d < f → soN (fun i => decide ((tot g (B i) - (if B i = p then k else 0)) - A i * K (B i) = V i)) i = true → f_X7_areLevelsSo_L2 (nI c) tpa (nI n) sp tsp hk tv (nI p) (nI k) f (nI i) = some (bI (soN (fun i => decide ((tot g (B i) - (if B i = p then k else 0)) - A i * K (B i) = V i)) c)) := by
    intro d
    induction d with
    | zero =>
      intro i f hi hf h1
      obtain ⟨f, rfl⟩ : ∃ k, f = k + 1 := ⟨f - 1, by omega⟩
      rw [show c = i by omega, h1]
      show f_X7_areLevelsSo_B2 _ _ _ _ _ _ _ _ _ _ _ = _
      unfold f_X7_areLevelsSo_B2
      simp only [L0, L1, L2, L3, L4, L5, L6, L7, L8, L9, L10, L11, L12, L13, L19, L20, L26, L31, L32, L33, L48, L49, L50, L51, L57, L59, L60, L61, L98, L99, L100, L108, L112, L115, L127, L128, L200, L201, L255, L256, L257, L400, L401, L420, L459, L999, L1000, L5940]
      rw [if_pos (nI_le (Nat.le_refl _) (by omega))]
      rfl
    | succ d ih =>
      intro i f hi hf h1
      obtain ⟨f, rfl⟩ : ∃ k, f = k + 1 := ⟨f - 1, by omega⟩
      rw [hst i f (by omega)]
      by_cases e : (tot g (B i) - (if B i = p then k else 0)) - A i * K (B i) = V i
      · rw [if_pos e]
        refine ih (i + 1) f (by omega) (by omega) ?_
        show (soN _ i && decide _) = true
        rw [h1, decide_eq_true e]
        rfl
      · rw [if_neg e, soN_false (i := i) (by omega) (decide_eq_false e)]
        rfl
  exact key c 0 FU (by omega) (fu (by omega)) rfl
theorem q_isSo {n c : Nat} {G K A B V : Nat → Nat} {s td mn mv : Nat → Int32} (hn : n ≤ 7) (hc : c ≤ 5) (hs : ∀ x, x < 49 → s x = nI (G x)) (hv : vg n G) (hK : ∀ j, j < n → K j ≤ 9 ∧ td (19 + j) = nI (K j)) (hh : ∀ i, i < c → A i ≤ 60 ∧ B i < n ∧ V i ≤ 420 ∧ mn i = nI (10 * A i + B i) ∧ mv i = nI (V i)) :
    f_X8_isSo (nI c) mn s td mv = some (bI (soN (so1 G K A B V) c)) := by
  unfold f_X8_isSo
  simp only [L0, L1, L2, L3, L4, L5, L6, L7, L8, L9, L10, L11, L12, L13, L19, L20, L26, L31, L32, L33, L48, L49, L50, L51, L57, L59, L60, L61, L98, L99, L100, L108, L112, L115, L127, L128, L200, L201, L255, L256, L257, L400, L401, L420, L459, L999, L1000, L5940]
  refine lup (fun i f => f_X8_isSo_L4 (nI c) mn s td mv f (bI (soN (so1 G K A B V) i)) (nI i)) c _ (fun i f hi => ?_) (fun f => ?_) 0 FU (by omega) (fu (by omega))
  · obtain ⟨a1, a2, a3, a4, a5⟩ := hh i hi
    have hT : tot G (B i) ≤ 420 := Nat.le_trans (tot_le (by omega)) hv.1
    have hmk : A i * K (B i) ≤ 60 * 9 := Nat.mul_le_mul a1 (hK (B i) a2).1
    have r1 : nI (10 * A i + B i) - nI (10 * A i + B i) / nI 10 * nI 10 = nI (B i) := by
      rw [pk_rem (by omega) (by omega) (by omega), show (10 * A i + B i) % 10 = B i by omega]
    have r2 : nI (10 * A i + B i) / nI 10 = nI (A i) := by
      rw [pk_div (by omega) (by omega) (by omega), show (10 * A i + B i) / 10 = A i by omega]
    show f_X8_isSo_B4 _ _ _ _ _ _ _ _ = _
    unfold f_X8_isSo_B4 f_X8_isSo_J64
    simp only [L0, L1, L2, L3, L4, L5, L6, L7, L8, L9, L10, L11, L12, L13, L19, L20, L26, L31, L32, L33, L48, L49, L50, L51, L57, L59, L60, L61, L98, L99, L100, L108, L112, L115, L127, L128, L200, L201, L255, L256, L257, L400, L401, L420, L459, L999, L1000, L5940]
    rw [if_neg (nI_ge hi (by omega))]
    simp only [qck (show i < 5 by omega) (show (5 : Nat) < 2147483648 by omega), ck_t (qnz (show 0 < 10 by omega) (show 10 < 2147483648 by omega))]
    rw [qcl (by omega), a4, a5, r1, r2, q_full hs (by omega), qbd, nI_add, nI_add, qck (show 19 + B i < 33 by omega) (by omega), qcl (by omega), (hK (B i) a2).2, pk_mul]
    have e1 : soN (so1 G K A B V) (i + 1) = (soN (so1 G K A B V) i && so1 G K A B V i) := rfl
    rw [e1]
    cases h1 : soN (so1 G K A B V) i with
    | false => rw [if_pos (show bI false = nI 0 from rfl)]; rfl
    | true =>
      rw [if_neg (show ¬ bI true = nI 0 by decide), Bool.true_and]
      unfold so1
      by_cases c1 : A i * K (B i) ≤ tot G (B i)
      · rw [qsub c1, if_pos (nI_le (Nat.zero_le _) (by omega))]
        by_cases c2 : tot G (B i) - A i * K (B i) = V i
        · rw [if_pos (by rw [c2]), decide_eq_true c2]; rfl
        · rw [if_neg (by rw [nI_eq (by omega) (by omega)]; exact c2), decide_eq_false c2]; rfl
      · have h0 : ¬ nI 0 ≤ nI (tot G (B i)) - nI (A i * K (B i)) := by
          rw [Int32.le_iff_toInt_le, pk_sub_toInt (by omega) (by omega), nI_toInt (by omega)]
          omega
        rw [if_neg h0]
        by_cases c2 : 0 = V i
        · rw [if_pos (by rw [c2]), decide_eq_true (by omega)]; rfl
        · rw [if_neg (by rw [nI_eq (by omega) (by omega)]; exact c2), decide_eq_false (by omega)]; rfl
  · show f_X8_isSo_B4 _ _ _ _ _ _ _ _ = _
    unfold f_X8_isSo_B4
    rw [if_pos (nI_le (Nat.le_refl _) (by omega)), ck_t (bI_bo _)]
/-! all of them -/
def hit (g : Nat → Nat) (So : Nat → Nat → Bool) (p k : Nat) : Bool := decide (1 ≤ k ∧ k ≤ tot g p ∧ k ≤ 20) && So p k
def tn (g : Nat → Nat) (So : Nat → Nat → Bool) (p k : Nat) : Nat := if hit g So p k = true then 1 else 0
def tf (g : Nat → Nat) (So : Nat → Nat → Bool) (p k : Nat) : Option Nat := if hit g So p k = true then some (100 * p + k) else none
def tb (g : Nat → Nat) (So : Nat → Nat → Bool) (p k : Nat) : Nat := if hit g So p k = true then 2 ^ p else 0
theorem hit_no {g : Nat → Nat} {So : Nat → Nat → Bool} {p k : Nat} (h : ¬ (1 ≤ k ∧ k ≤ tot g p ∧ k ≤ 20)) : hit g So p k = false := by
  unfold hit
  rw [decide_eq_false h]
  rfl
theorem tf_lt {g : Nat → Nat} {So : Nat → Nat → Bool} {p m : Nat} (hp : p < 7) (hm : m ≤ 21) : ∀ c, fuo (tf g So p) m = some c → c < 100000 := fuo_lt (fun k hk c e => by
  unfold tf at e
  by_cases h : hit g So p k = true
  · rw [if_pos h] at e; cases e; omega
  · rw [if_neg h] at e; cases e)
theorem q_theft {n : Nat} {g : Nat → Nat} {So : Nat → Nat → Bool} {sp hk tsp tpa tv : Nat → Int32} {ts v1 : Int32} (hn : n ≤ 7) (hs : ∀ x, x < 49 → sp x = nI (g x)) (hv : vg n g) (hso : ∀ p k, p < n → k ≤ tot g p → f_X7_areLevelsSo ts tpa (nI n) sp tsp hk tv (nI p) (nI k) = some (bI (So p k))) :
    f_X7_theft_L22 (nI n) sp ts tpa tsp hk tv v1 FU (nI 0) (-nI 9) (nI 0) (nI 0) = f_X7_theft_J114 v1 (nI (sm (fun p => sm (tn g So p) 21) n)) (fo (fuo (fun p => fuo (tf g So p) 21) n)) (nI (lo (fun p => lo (tb g So p) 21) n)) := by
  have hlt : ∀ m, m ≤ n → ∀ c, fuo (fun p => fuo (tf g So p) 21) m = some c → c < 100000 := fun m hm => fuo_lt (fun k hk c e => tf_lt (by omega) (by omega) c e)
  refine lup (fun p f => f_X7_theft_L22 (nI n) sp ts tpa tsp hk tv v1 f (nI (sm (fun p => sm (tn g So p) 21) p)) (fo (fuo (fun p => fuo (tf g So p) 21) p)) (nI (lo (fun p => lo (tb g So p) 21) p)) (nI p)) n _ (fun p f hp => ?_) (fun f => ?_) 0 FU (by omega) (fu (by omega))
  · have hT : tot g p ≤ 420 := Nat.le_trans (tot_le (by omega)) hv.1
    show f_X7_theft_B22 _ _ _ _ _ _ _ _ _ _ _ _ _ = _
    unfold f_X7_theft_B22
    simp only [L0, L1, L2, L3, L4, L5, L6, L7, L8, L9, L10, L11, L12, L13, L19, L20, L26, L31, L32, L33, L48, L49, L50, L51, L57, L59, L60, L61, L98, L99, L100, L108, L112, L115, L127, L128, L200, L201, L255, L256, L257, L400, L401, L420, L459, L999, L1000, L5940]
    rw [if_neg (nI_ge hp (by omega)), q_inPan hs hn (by omega) (vg_z hv (by omega)), qbd, qmin (by omega) (by omega)]
    have z1 : sm (tn g So p) 1 = 0 := sm_z (fun k hk => by unfold tn; rw [if_neg (by rw [hit_no (by omega)]; decide)])
    have z2 : fuo (tf g So p) 1 = none := fuo_z (fun k hk => by unfold tf; rw [if_neg (by rw [hit_no (by omega)]; decide)])
    have z3 : lo (tb g So p) 1 = 0 := by
      show 0 ||| tb g So p 0 = 0
      unfold tb
      rw [if_neg (by rw [hit_no (by omega)]; decide)]
      rfl
    have y1 : sm (tn g So p) 21 = sm (tn g So p) (min (tot g p) 20 + 1) := sm_ext _ (by omega) (fun k h1 h2 => by unfold tn; rw [if_neg (by rw [hit_no (by omega)]; decide)])
    have y2 : fuo (tf g So p) 21 = fuo (tf g So p) (min (tot g p) 20 + 1) := fuo_ext (by omega) (fun k h1 h2 => by unfold tf; rw [if_neg (by rw [hit_no (by omega)]; decide)])
    have y3 : lo (tb g So p) 21 = lo (tb g So p) (min (tot g p) 20 + 1) := lo_ext (by omega) (fun k h1 h2 => by unfold tb; rw [if_neg (by rw [hit_no (by omega)]; decide)])
    have L := lupf (fun k f2 => f_X7_theft_L53 (nI n) sp ts tpa tsp hk tv (nI p) (f_X7_theft_L22 (nI n) sp ts tpa tsp hk tv v1 f) (nI (min (tot g p) 20)) f2 (nI (sm (fun p => sm (tn g So p) 21) p + sm (tn g So p) k)) (fo ((fuo (fun p => fuo (tf g So p) 21) p).or (fuo (tf g So p) k))) (nI (lo (fun p => lo (tb g So p) 21) p ||| lo (tb g So p) k)) (nI k)) 1 (min (tot g p) 20 + 1) (f_X7_theft_L22 (nI n) sp ts tpa tsp hk tv v1 f (nI (sm (fun p => sm (tn g So p) 21) (p + 1))) (fo (fuo (fun p => fuo (tf g So p) 21) (p + 1))) (nI (lo (fun p => lo (tb g So p) 21) (p + 1))) (nI (p + 1))) (fun k f2 hk1 hk2 => by
      have hlt2 : ∀ c, (fuo (fun p => fuo (tf g So p) 21) p).or (fuo (tf g So p) k) = some c → c < 2147483648 := fun c e => by
        have := or_lt (hlt p (by omega)) (tf_lt (g := g) (So := So) (p := p) (m := k) (by omega) (by omega)) c e
        omega
      show f_X7_theft_B53 _ _ _ _ _ _ _ _ _ _ _ _ _ _ _ = _
      unfold f_X7_theft_B53 f_X7_theft_J92
      simp only [L0, L1, L2, L3, L4, L5, L6, L7, L8, L9, L10, L11, L12, L13, L19, L20, L26, L31, L32, L33, L48, L49, L50, L51, L57, L59, L60, L61, L98, L99, L100, L108, L112, L115, L127, L128, L200, L201, L255, L256, L257, L400, L401, L420, L459, L999, L1000, L5940]
      have e1 : sm (tn g So p) (k + 1) = sm (tn g So p) k + tn g So p k := rfl
      have e2 : fuo (tf g So p) (k + 1) = (fuo (tf g So p) k).or (tf g So p k) := rfl
      have e3 : lo (tb g So p) (k + 1) = lo (tb g So p) k ||| tb g So p k := rfl
      have hh : hit g So p k = So p k := by
        unfold hit
        rw [decide_eq_true (by omega)]
        rfl
      rw [if_neg (nI_nlt (by omega) (by omega)), hso p k hp (by omega), qbd, e1, e2, e3, show tn g So p k = (if So p k = true then 1 else 0) by unfold tn; rw [hh], show tf g So p k = (if So p k = true then some (100 * p + k) else none) by unfold tf; rw [hh], show tb g So p k = (if So p k = true then 2 ^ p else 0) by unfold tb; rw [hh]]
      cases So p k with
      | false =>
        rw [if_pos (show bI false = nI 0 from rfl), if_neg (by decide), if_neg (by decide), if_neg (by decide), or_none', Nat.or_zero, nI_add]
        rfl
      | true =>
        rw [if_neg (show ¬ bI true = nI 0 by decide), if_pos rfl, if_pos rfl, if_pos rfl, ← or_asc, ← fo_or hlt2, shl1 p (by omega), fa_or, pk_mul, nI_add, nI_add, nI_add, Nat.or_assoc, Nat.add_assoc]
        by_cases c : fo ((fuo (fun p => fuo (tf g So p) 21) p).or (fuo (tf g So p) k)) = -nI 9
        · rw [if_pos c, if_pos c]
        · rw [if_neg c, if_neg c]) (fun f2 => by
      show f_X7_theft_B53 _ _ _ _ _ _ _ _ _ _ _ _ _ _ _ = _
      unfold f_X7_theft_B53
      simp only [L0, L1, L2, L3, L4, L5, L6, L7, L8, L9, L10, L11, L12, L13, L19, L20, L26, L31, L32, L33, L48, L49, L50, L51, L57, L59, L60, L61, L98, L99, L100, L108, L112, L115, L127, L128, L200, L201, L255, L256, L257, L400, L401, L420, L459, L999, L1000, L5940]
      rw [if_pos (nI_lt (by omega) (by omega)), nI_add, ← y1, ← y2, ← y3]
      rfl) FU (by omega) (fu (by omega))
    try dsimp only at L
    rw [z1, z2, z3, or_none', Nat.add_zero, Nat.or_zero] at L
    exact L
  · show f_X7_theft_B22 _ _ _ _ _ _ _ _ _ _ _ _ _ = _
    unfold f_X7_theft_B22
    simp only [L0, L1, L2, L3, L4, L5, L6, L7, L8, L9, L10, L11, L12, L13, L19, L20, L26, L31, L32, L33, L48, L49, L50, L51, L57, L59, L60, L61, L98, L99, L100, L108, L112, L115, L127, L128, L200, L201, L255, L256, L257, L400, L401, L420, L459, L999, L1000, L5940]
    rw [if_pos (nI_le (Nat.le_refl _) (by omega))]
