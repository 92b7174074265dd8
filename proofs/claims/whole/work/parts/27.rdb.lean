theorem fa_and (a b : Nat) : nI a &&& nI b = nI (a &&& b) := by
  apply Int32.toBitVec_inj.1
  show BitVec.ofNat 32 a &&& BitVec.ofNat 32 b = BitVec.ofNat 32 (a &&& b)
  apply BitVec.eq_of_getLsbD_eq
  intro i hi
  simp [hi]
theorem fa_or (a b : Nat) : nI a ||| nI b = nI (a ||| b) := by
  apply Int32.toBitVec_inj.1
  show BitVec.ofNat 32 a ||| BitVec.ofNat 32 b = BitVec.ofNat 32 (a ||| b)
  apply BitVec.eq_of_getLsbD_eq
  intro i hi
  simp [hi]
theorem shl1 : ∀ p, p < 8 → nI 1 <<< (nI p &&& nI 31) = nI (2 ^ p) := by decide
theorem shk : ∀ k, k < 8 → ((nI k &&& nI 31).toBitVec.smod 32).toNat = k := by decide
theorem shr1 {x k : Nat} (hk : k < 8) (hx : x < 2147483648) : nI x >>> (nI k &&& nI 31) &&& nI 1 = nI (x / 2 ^ k % 2) := by
  rw [pk_shrN hx _ k (shk k hk), fa_and, Nat.and_one_is_mod]
/-- a truth as a number -/
def bI : Bool → Int32
  | true => nI 1
  | false => nI 0
theorem bI_bo (x : Bool) : bo (bI x) = true := by cases x <;> decide
theorem bI_0 (x : Bool) : (bI x = nI 0) = (x = false) := by cases x <;> simp [bI] <;> decide
def orb (P : Nat → Bool) : Nat → Nat
  | 0 => 0
  | i + 1 => match P i with
    | true => orb P i ||| 2 ^ i
    | false => orb P i
theorem orb_bit (P : Nat → Bool) (k : Nat) : ∀ n, (orb P n).testBit k = (decide (k < n) && P k)
  | 0 => by simp [orb]
  | n + 1 => by
    have ih := orb_bit P k n
    unfold orb
    cases h : P n with
    | true =>
      show (orb P n ||| 2 ^ n).testBit k = _
      rw [Nat.testBit_or, ih, Nat.testBit_two_pow]
      by_cases e : n = k
      · subst e; simp [h]
      · have : decide (k < n + 1) = decide (k < n) := by simp; omega
        rw [this]; simp [e]
    | false =>
      show (orb P n).testBit k = _
      rw [ih]
      by_cases e : n = k
      · subst e; simp [h]
      · have : decide (k < n + 1) = decide (k < n) := by simp; omega
        rw [this]
theorem orb_lt (P : Nat → Bool) (n : Nat) : orb P n < 2 ^ n := Nat.lt_pow_two_of_testBit _ (fun i hi => by rw [orb_bit]; simp; omega)
theorem orb_cong {P Q : Nat → Bool} : ∀ {n : Nat}, (∀ k, k < n → P k = Q k) → orb P n = orb Q n
  | 0, _ => rfl
  | n + 1, h => by
    unfold orb
    rw [orb_cong (fun k hk => h k (by omega)), h n (by omega)]
theorem orb_lt7 (P : Nat → Bool) {n : Nat} (hn : n ≤ 7) : orb P n < 128 := by
  have h1 := orb_lt P n
  have h2 : 2 ^ n ≤ 2 ^ 7 := Nat.pow_le_pow_right (by omega) hn
  omega
def pc (x : Nat) : Nat := sm (fun k => x / 2 ^ k % 2) 7
def cnt (P : Nat → Bool) (n : Nat) : Nat := sm (fun p => match P p with
  | true => 1
  | false => 0) n
theorem pc_orb (P : Nat → Bool) {n : Nat} (hn : n ≤ 7) : pc (orb P n) = cnt P n := by
  unfold pc cnt
  have h : ∀ k, k < 7 → orb P n / 2 ^ k % 2 = (if k < n then (match P k with
    | true => 1
    | false => 0) else 0) := by
    intro k hk
    have e := orb_bit P k n
    rw [Nat.testBit_eq_decide_div_mod_eq] at e
    by_cases c : k < n
    · rw [if_pos c]
      simp only [c, decide_true, Bool.true_and] at e
      cases hP : P k with
      | true => rw [hP] at e; simpa using e
      | false =>
        rw [hP] at e
        simp at e
        show orb P n / 2 ^ k % 2 = 0
        omega
    · rw [if_neg c]
      simp only [c, decide_false, Bool.false_and] at e
      simp at e
      omega
  rw [sm_cong h, sm_ext _ hn (fun k h1 _ => if_neg (by omega))]
  exact sm_cong (fun k hk => if_pos hk)
theorem q_ones {x : Nat} (hx : x < 2147483648) : f_X8_ones (nI x) = some (nI (pc x)) := by
  unfold f_X8_ones pc
  simp only [L0, L1, L2, L3, L4, L5, L6, L7, L8, L9, L10, L11, L12, L13, L19, L20, L26, L31, L32, L33, L48, L49, L50, L51, L57, L59, L60, L61, L98, L99, L100, L108, L112, L115, L127, L128, L200, L201, L255, L256, L257, L400, L401, L420, L459, L999, L1000, L5940]
  refine lup (fun q f => f_X8_ones_L4 (nI x) f (nI (sm (fun k => x / 2 ^ k % 2) q)) (nI q)) 7 _ (fun q f hq => ?_) (fun f => ?_) 0 FU (by omega) (fu (by omega))
  · show f_X8_ones_B4 _ _ _ _ = _
    unfold f_X8_ones_B4
    simp only [L0, L1, L2, L3, L4, L5, L6, L7, L8, L9, L10, L11, L12, L13, L19, L20, L26, L31, L32, L33, L48, L49, L50, L51, L57, L59, L60, L61, L98, L99, L100, L108, L112, L115, L127, L128, L200, L201, L255, L256, L257, L400, L401, L420, L459, L999, L1000, L5940]
    rw [if_neg (nI_ge hq (by omega)), shr1 (by omega) hx, nI_add, nI_add]
    rfl
  · show f_X8_ones_B4 _ _ _ _ = _
    unfold f_X8_ones_B4
    simp only [L0, L1, L2, L3, L4, L5, L6, L7, L8, L9, L10, L11, L12, L13, L19, L20, L26, L31, L32, L33, L48, L49, L50, L51, L57, L59, L60, L61, L98, L99, L100, L108, L112, L115, L127, L128, L200, L201, L255, L256, L257, L400, L401, L420, L459, L999, L1000, L5940]
    rw [if_pos (nI_le (Nat.le_refl _) (by omega))]
/-! can be read -/
def rdb (le : Nat) (g : Nat → Nat) (p : Nat) : Bool := decide (le ≤ g (7 * p + p) ∧ tot g p = g (7 * p + p))
theorem rdb_cong {le : Nat} {g g' : Nat → Nat} {p : Nat} (hp : p < 7) (h : ∀ q, q < 7 → g (7 * p + q) = g' (7 * p + q)) : rdb le g p = rdb le g' p := by
  unfold rdb tot
  rw [h p hp, sm_cong (f := fun q => g (7 * p + q)) (g := fun q => g' (7 * p + q)) h]
theorem q_isRead {le p : Nat} {g : Nat → Nat} {s td : Nat → Int32} (hp : p < 7) (hle : le ≤ 60) (h1 : td 1 = nI le) (hs : ∀ x, x < 49 → s x = nI (g x)) (hg : g (7 * p + p) ≤ 420) (ht : tot g p ≤ 420) : f_X8_isRead s td (nI p) = some (bI (rdb le g p)) := by
  unfold f_X8_isRead
  simp only [L0, L1, L2, L3, L4, L5, L6, L7, L8, L9, L10, L11, L12, L13, L19, L20, L26, L31, L32, L33, L48, L49, L50, L51, L57, L59, L60, L61, L98, L99, L100, L108, L112, L115, L127, L128, L200, L201, L255, L256, L257, L400, L401, L420, L459, L999, L1000, L5940]
  rw [pk_mul, qck (by omega) (by omega), qck (by omega) (by omega), qcl (by omega), qcl (by omega), h1, q_full hs hp, qbd, qck (by omega) (by omega), show 8 * p = 7 * p + p by omega, hs _ (by omega)]
  unfold rdb
  by_cases c : le ≤ g (7 * p + p)
  · rw [if_neg (nI_nlt c (by omega))]
    by_cases c2 : tot g p = g (7 * p + p)
    · rw [if_pos (by rw [c2]), decide_eq_true ⟨c, c2⟩]
      rfl
    · rw [if_neg (by rw [nI_eq (by omega) (by omega)]; exact c2), decide_eq_false (fun h => c2 h.2)]
      rfl
  · rw [if_pos (nI_lt (by omega) (by omega)), decide_eq_false (fun h => c h.1)]
    rfl
theorem sm_but (r : Nat → Nat) {n p : Nat} (hp : p < n) : sm (fun q => if q = p then 0 else r q) n + r p = sm r n := by
  have h := sm_one (fun q => if q = p then 0 else r q) r hp (fun k hk hne => by rw [if_neg hne])
  rw [if_pos rfl] at h
  omega
theorem q_canIn {n le m p : Nat} {Y K o g G : Nat → Nat} {hk hb sp : Nat → Int32} (hn : n ≤ 7) (hp : p < n) (hle : le ≤ 60) (ho : srt n Y o) (hbo : ∀ i, i < n → hb i = nI (o i)) (hK : hk p = nI (K p)) (hm : m * K p < 1000000) (hs : ∀ x, x < 49 → sp x = nI (g x)) (hg : ∀ x, x < 49 → g x ≤ 420) (hG : ∀ q, q < n → G (7 * p + q) = rs Y n (m * K p) (fun q => g (7 * p + q)) q) (hGz : ∀ q, n ≤ q → q < 7 → G (7 * p + q) = 0) (hGt : tot G p ≤ 420) :
    f_X4_canBeReadIn (nI n) (nI le) hk hb sp (nI m) (nI p) = some (bI (rdb le G p)) := by
  unfold f_X4_canBeReadIn
  simp only [L0, L1, L2, L3, L4, L5, L6, L7, L8, L9, L10, L11, L12, L13, L19, L20, L26, L31, L32, L33, L48, L49, L50, L51, L57, L59, L60, L61, L98, L99, L100, L108, L112, L115, L127, L128, L200, L201, L255, L256, L257, L400, L401, L420, L459, L999, L1000, L5940]
  rw [qck (show p < 7 by omega) (by omega), qcl (by omega), hK, pk_mul]
  generalize hk0 : m * K p = k at hm hG
  have hGp := hG p hp
  have hrsp : rs Y n k (fun q => g (7 * p + q)) p ≤ 420 := Nat.le_trans (rs_le _ _ _ _ _) (hg _ (by omega))
  have hrest : sm (fun q => if q = p then 0 else rs Y n k (fun q => g (7 * p + q)) q) n + G (7 * p + p) = tot G p := by
    rw [← tot_n hn hGz, sm_cong (f := fun q => G (7 * p + q)) (g := rs Y n k (fun q => g (7 * p + q))) hG, hGp]
    exact sm_but _ hp
  have hW : sm (fun j => if o j = p then rs Y n k (fun q => g (7 * p + q)) (o j) else 0) n = rs Y n k (fun q => g (7 * p + q)) p := by
    rw [← sm_perm ho.perm (fun x => if x = p then rs Y n k (fun q => g (7 * p + q)) x else 0), sm_ind _ hp]
  have hV : sm (fun j => if o j = p then 0 else rs Y n k (fun q => g (7 * p + q)) (o j)) n = sm (fun q => if q = p then 0 else rs Y n k (fun q => g (7 * p + q)) q) n := (sm_perm ho.perm (fun x => if x = p then 0 else rs Y n k (fun q => g (7 * p + q)) x)).symm
  refine lup (fun i f => f_X4_canBeReadIn_L21 (nI n) (nI le) hb sp (nI p) f (nI (k - sm (fun j => g (7 * p + o j)) i)) (nI (sm (fun j => if o j = p then rs Y n k (fun q => g (7 * p + q)) (o j) else 0) i)) (nI (sm (fun j => if o j = p then 0 else rs Y n k (fun q => g (7 * p + q)) (o j)) i)) (nI i)) n _ (fun i f hi => ?_) (fun f => ?_) 0 FU (by omega) (fu (by omega))
  · have hoi := ho.1 i hi
    have hgx := hg (7 * p + o i) (by omega)
    have ers : rs Y n k (fun q => g (7 * p + q)) (o i) = g (7 * p + o i) - min (g (7 * p + o i)) (k - sm (fun j => g (7 * p + o j)) i) := by
      unfold rs
      rw [bf_o ho _ hi]
      try dsimp only
      omega
    show f_X4_canBeReadIn_B21 _ _ _ _ _ _ _ _ _ _ = _
    unfold f_X4_canBeReadIn_B21
    simp only [L0, L1, L2, L3, L4, L5, L6, L7, L8, L9, L10, L11, L12, L13, L19, L20, L26, L31, L32, L33, L48, L49, L50, L51, L57, L59, L60, L61, L98, L99, L100, L108, L112, L115, L127, L128, L200, L201, L255, L256, L257, L400, L401, L420, L459, L999, L1000, L5940]
    rw [if_neg (nI_ge hi (by omega)), qck (show i < 7 by omega) (by omega), qcl (by omega), hbo i hi, q_amount hs (by omega) (by omega), qbd, qbd, qmin (by omega) (by omega), qsub (Nat.min_le_left _ _), qsub (Nat.min_le_right _ _), nI_add, nI_add, ← ers]
    have e1 : k - sm (fun j => g (7 * p + o j)) i - min (g (7 * p + o i)) (k - sm (fun j => g (7 * p + o j)) i) = k - sm (fun j => g (7 * p + o j)) (i + 1) := by rw [sm_s]; omega
    rw [e1]
    have eW : sm (fun j => if o j = p then rs Y n k (fun q => g (7 * p + q)) (o j) else 0) (i + 1) = sm (fun j => if o j = p then rs Y n k (fun q => g (7 * p + q)) (o j) else 0) i + (if o i = p then rs Y n k (fun q => g (7 * p + q)) (o i) else 0) := rfl
    have eV : sm (fun j => if o j = p then 0 else rs Y n k (fun q => g (7 * p + q)) (o j)) (i + 1) = sm (fun j => if o j = p then 0 else rs Y n k (fun q => g (7 * p + q)) (o j)) i + (if o i = p then 0 else rs Y n k (fun q => g (7 * p + q)) (o i)) := rfl
    rw [eW, eV]
    by_cases c : o i = p
    · rw [if_pos (by rw [c])]
      have z : sm (fun j => if o j = p then rs Y n k (fun q => g (7 * p + q)) (o j) else 0) i = 0 := sm_z (fun j hj => if_neg (fun e => ho.perm.2 j i hj hi (by omega)))
      rw [z, if_pos c, if_pos c, Nat.zero_add]
      rfl
    · rw [if_neg (by rw [nI_eq (by omega) (by omega)]; exact c), if_neg c, if_neg c]
      rfl
  · show f_X4_canBeReadIn_B21 _ _ _ _ _ _ _ _ _ _ = _
    unfold f_X4_canBeReadIn_B21 f_X4_canBeReadIn_J101
    simp only [L0, L1, L2, L3, L4, L5, L6, L7, L8, L9, L10, L11, L12, L13, L19, L20, L26, L31, L32, L33, L48, L49, L50, L51, L57, L59, L60, L61, L98, L99, L100, L108, L112, L115, L127, L128, L200, L201, L255, L256, L257, L400, L401, L420, L459, L999, L1000, L5940]
    rw [if_pos (nI_le (Nat.le_refl _) (by omega)), hW, hV]
    unfold rdb
    rw [hGp] at hrest ⊢
    by_cases c : le ≤ rs Y n k (fun q => g (7 * p + q)) p
    · rw [if_neg (nI_nlt c (by omega))]
      by_cases c2 : tot G p = rs Y n k (fun q => g (7 * p + q)) p
      · rw [if_pos (by rw [show sm (fun q => if q = p then 0 else rs Y n k (fun q => g (7 * p + q)) q) n = 0 by omega]), decide_eq_true ⟨c, c2⟩]
        rfl
      · rw [if_neg (by rw [nI_eq (by omega) (by omega)]; omega), decide_eq_false (fun h => c2 h.2)]
        rfl
    · rw [if_pos (nI_lt (by omega) (by omega)), decide_eq_false (fun h => c h.1)]
      rfl
theorem q_can {n le p : Nat} {Y o g : Nat → Nat} {hk hb sp : Nat → Int32} {K : Nat → Nat} (hn : n ≤ 7) (hp : p < n) (hle : le ≤ 60) (ho : srt n Y o) (hbo : ∀ i, i < n → hb i = nI (o i)) (hK : hk p = nI (K p)) (hs : ∀ x, x < 49 → sp x = nI (g x)) (hv : vg n g) : f_X4_canBeRead (nI n) (nI le) hk hb sp (nI p) = some (bI (rdb le g p)) := by
  unfold f_X4_canBeRead
  simp only [L0, L1, L2, L3, L4, L5, L6, L7, L8, L9, L10, L11, L12, L13, L19, L20, L26, L31, L32, L33, L48, L49, L50, L51, L57, L59, L60, L61, L98, L99, L100, L108, L112, L115, L127, L128, L200, L201, L255, L256, L257, L400, L401, L420, L459, L999, L1000, L5940]
  rw [q_canIn (m := 0) (G := g) (K := K) hn hp hle ho hbo hK (by omega) hs (fun x hx => vg_le hv hx) (fun q hq => by rw [Nat.zero_mul, rs_0]) (vg_z hv (by omega)) (Nat.le_trans (tot_le (by omega)) hv.1), qbd, ck_t (bI_bo _)]
theorem q_readable {n le : Nat} {Y o g : Nat → Nat} {hk hb sp : Nat → Int32} {K : Nat → Nat} (hn : n ≤ 7) (hle : le ≤ 60) (ho : srt n Y o) (hbo : ∀ i, i < n → hb i = nI (o i)) (hK : ∀ p, p < n → hk p = nI (K p)) (hs : ∀ x, x < 49 → sp x = nI (g x)) (hv : vg n g) : f_X4_readable (nI n) (nI le) hk hb sp = some (nI (orb (rdb le g) n)) := by
  unfold f_X4_readable
  simp only [L0, L1, L2, L3, L4, L5, L6, L7, L8, L9, L10, L11, L12, L13, L19, L20, L26, L31, L32, L33, L48, L49, L50, L51, L57, L59, L60, L61, L98, L99, L100, L108, L112, L115, L127, L128, L200, L201, L255, L256, L257, L400, L401, L420, L459, L999, L1000, L5940]
  refine lup (fun q f => f_X4_readable_L4 (nI n) (nI le) hk hb sp f (nI (orb (rdb le g) q)) (nI q)) n _ (fun q f hq => ?_) (fun f => ?_) 0 FU (by omega) (fu (by omega))
  · show f_X4_readable_B4 _ _ _ _ _ _ _ _ = _
    unfold f_X4_readable_B4
    simp only [L0, L1, L2, L3, L4, L5, L6, L7, L8, L9, L10, L11, L12, L13, L19, L20, L26, L31, L32, L33, L48, L49, L50, L51, L57, L59, L60, L61, L98, L99, L100, L108, L112, L115, L127, L128, L200, L201, L255, L256, L257, L400, L401, L420, L459, L999, L1000, L5940]
    rw [if_neg (nI_ge hq (by omega)), q_can hn hq hle ho hbo (hK q hq) hs hv, qbd, nI_add, shl1 q (by omega), fa_or]
    show _ = f_X4_readable_L4 _ _ _ _ _ _ (nI (match rdb le g q with
      | true => orb (rdb le g) q ||| 2 ^ q
      | false => orb (rdb le g) q)) _
    cases rdb le g q with
    | true => rw [if_neg (show ¬ bI true = nI 0 by decide)]
    | false => rw [if_pos (show bI false = nI 0 from rfl)]
  · show f_X4_readable_B4 _ _ _ _ _ _ _ _ = _
    unfold f_X4_readable_B4
    rw [if_pos (nI_le (Nat.le_refl _) (by omega))]
theorem q_allRead {n le : Nat} {g : Nat → Nat} {s td : Nat → Int32} (hn : n ≤ 7) (h0 : td 0 = nI n) (hle : le ≤ 60) (h1 : td 1 = nI le) (hs : ∀ x, x < 49 → s x = nI (g x)) (hv : vg n g) : f_X8_allRead td s = some (nI (orb (rdb le g) n)) := by
  unfold f_X8_allRead
  simp only [L0, L1, L2, L3, L4, L5, L6, L7, L8, L9, L10, L11, L12, L13, L19, L20, L26, L31, L32, L33, L48, L49, L50, L51, L57, L59, L60, L61, L98, L99, L100, L108, L112, L115, L127, L128, L200, L201, L255, L256, L257, L400, L401, L420, L459, L999, L1000, L5940]
  refine lup (fun q f => f_X8_allRead_L4 td s f (nI (orb (rdb le g) q)) (nI q)) n _ (fun q f hq => ?_) (fun f => ?_) 0 FU (by omega) (fu (by omega))
  · show f_X8_allRead_B4 _ _ _ _ _ = _
    unfold f_X8_allRead_B4
    simp only [L0, L1, L2, L3, L4, L5, L6, L7, L8, L9, L10, L11, L12, L13, L19, L20, L26, L31, L32, L33, L48, L49, L50, L51, L57, L59, L60, L61, L98, L99, L100, L108, L112, L115, L127, L128, L200, L201, L255, L256, L257, L400, L401, L420, L459, L999, L1000, L5940]
    rw [qck (by omega) (by omega), qcl (by omega), h0, if_neg (nI_ge hq (by omega)), q_isRead (show q < 7 by omega) hle h1 hs (vg_le hv (by omega)) (Nat.le_trans (tot_le (by omega)) hv.1), qbd, nI_add, shl1 q (by omega), fa_or, fa_or, Nat.or_zero]
    show _ = f_X8_allRead_L4 _ _ _ (nI (match rdb le g q with
      | true => orb (rdb le g) q ||| 2 ^ q
      | false => orb (rdb le g) q)) _
    cases rdb le g q with
    | true => rw [if_neg (show ¬ bI true = nI 0 by decide)]
    | false => rw [if_pos (show bI false = nI 0 from rfl)]
  · show f_X8_allRead_B4 _ _ _ _ _ = _
    unfold f_X8_allRead_B4
    simp only [L0, L1, L2, L3, L4, L5, L6, L7, L8, L9, L10, L11, L12, L13, L19, L20, L26, L31, L32, L33, L48, L49, L50, L51, L57, L59, L60, L61, L98, L99, L100, L108, L112, L115, L127, L128, L200, L201, L255, L256, L257, L400, L401, L420, L459, L999, L1000, L5940]
    rw [qck (by omega) (by omega), qcl (by omega), h0, if_pos (nI_le (Nat.le_refl _) (by omega))]
