/-! the old chances do not matter -/
def ag (a b : Nat → Int32) : Prop := ∀ i, i < 8 → a i = b i
theorem ag_upd {a b : Nat → Int32} (h : ag a b) (i : Nat) {x y : Int32} (e : x = y) : ag (upd a i x) (upd b i y) := by
  intro j hj
  by_cases c : j = i
  · subst c; rw [qu_s, qu_s, e]
  · rw [qu_n c, qu_n c, h j hj]
def OA : Option (Nat → Int32) → Option (Nat → Int32) → Prop
  | none, none => True
  | some a, some b => ag a b
  | _, _ => False
def OP : Option (Int32 × Int32 × (Nat → Int32)) → Option (Int32 × Int32 × (Nat → Int32)) → Prop
  | none, none => True
  | some a, some b => a.1 = b.1 ∧ a.2.1 = b.2.1
  | _, _ => False
theorem OA_ck {b : Bool} {x y : Option (Nat → Int32)} (h : b = true → OA x y) : OA (ck b x) (ck b y) := by
  cases b with
  | false => exact trivial
  | true => exact h rfl
theorem OP_ck {b : Bool} {x y : Option (Int32 × Int32 × (Nat → Int32))} (h : b = true → OP x y) : OP (ck b x) (ck b y) := by
  cases b with
  | false => exact trivial
  | true => exact h rfl
theorem OP_bd {x y : Option (Nat → Int32)} {f g : (Nat → Int32) → Option (Int32 × Int32 × (Nat → Int32))} (h : OA x y) (hf : ∀ a b, ag a b → OP (f a) (g b)) : OP (bd x f) (bd y g) := by
  cases x with
  | none => cases y with
    | none => exact trivial
    | some b => exact h.elim
  | some a => cases y with
    | none => exact h.elim
    | some b => exact hf a b h
theorem ag_add (v1 : Int32) : ∀ f v2 a b, ag a b → OA (f_X0_addPan_L3 v1 f v2 a) (f_X0_addPan_L3 v1 f v2 b)
  | 0, _, _, _, _ => trivial
  | f + 1, v2, a, b, h => by
    show OA (f_X0_addPan_B3 v1 (f_X0_addPan_L3 v1 f) v2 a) (f_X0_addPan_B3 v1 (f_X0_addPan_L3 v1 f) v2 b)
    unfold f_X0_addPan_B3 f_X0_addPan_J41
    by_cases c : v2 ≤ 0
    · rw [if_pos c, if_pos c]
      refine OA_ck (fun i0 => OA_ck (fun _ => ?_))
      exact ag_upd h _ (by rw [h _ (ix_lt i0)])
    · rw [if_neg c, if_neg c]
      refine OA_ck (fun i0 => OA_ck (fun i1 => OA_ck (fun _ => ?_)))
      exact ag_add v1 f _ _ _ (ag_upd h _ (by rw [h _ (ix_lt i0), h _ (ix_lt i1)]))
theorem ag_81 (v3 lo : Int32) {a b : Nat → Int32} (h : ag a b) : ∀ f v4 u, OP (f_X0_reckon_L81 v3 lo a f v4 u) (f_X0_reckon_L81 v3 lo b f v4 u)
  | 0, _, _ => trivial
  | f + 1, v4, u => by
    show OP (f_X0_reckon_B81 v3 lo a (f_X0_reckon_L81 v3 lo a f) v4 u) (f_X0_reckon_B81 v3 lo b (f_X0_reckon_L81 v3 lo b f) v4 u)
    unfold f_X0_reckon_B81
    by_cases c : 7 < v4
    · rw [if_pos c, if_pos c]
      cases f_X0_reduce u lo v3 with
      | none => exact trivial
      | some o => exact ⟨rfl, rfl⟩
    · rw [if_neg c, if_neg c]
      refine OP_ck (fun i0 => ?_)
      rw [h _ (ix_lt i0)]
      exact ag_81 v3 lo h f _ _
theorem ag_41 (v1 v2 v3 : Int32) : ∀ f v4 lo a b, ag a b → OP (f_X0_reckon_L41 v1 v2 v3 f v4 lo a) (f_X0_reckon_L41 v1 v2 v3 f v4 lo b)
  | 0, _, _, _, _, _ => trivial
  | f + 1, v4, lo, a, b, h => by
    show OP (f_X0_reckon_B41 v1 v2 v3 (f_X0_reckon_L41 v1 v2 v3 f) v4 lo a) (f_X0_reckon_B41 v1 v2 v3 (f_X0_reckon_L41 v1 v2 v3 f) v4 lo b)
    unfold f_X0_reckon_B41 f_X0_reckon_J69
    by_cases c : v3 ≤ v4
    · rw [if_pos c, if_pos c]
      exact ag_81 v3 lo h _ _ _
    · rw [if_neg c, if_neg c]
      exact OP_bd (ag_add v1 _ _ _ _ h) (fun a b h2 => ag_41 v1 v2 v3 f _ _ a b h2)
theorem ag_8 (v1 v2 v3 lo : Int32) : ∀ d p f (a b : Nat → Int32), p + d = 8 → d < f → (∀ i, i < p → a i = b i) → OP (f_X0_reckon_L8 v1 v2 v3 lo f (nI p) a) (f_X0_reckon_L8 v1 v2 v3 lo f (nI p) b)
  | 0, p, f, a, b, hp, hf, h => by
    obtain ⟨f, rfl⟩ : ∃ k, f = k + 1 := ⟨f - 1, by omega⟩
    show OP (f_X0_reckon_B8 v1 v2 v3 lo (f_X0_reckon_L8 v1 v2 v3 lo f) (nI p) a) (f_X0_reckon_B8 v1 v2 v3 lo (f_X0_reckon_L8 v1 v2 v3 lo f) (nI p) b)
    unfold f_X0_reckon_B8
    have c : (7 : Int32) < nI p := by
      rw [show p = 8 by omega]
      decide
    rw [if_pos c, if_pos c]
    exact ag_41 v1 v2 v3 _ _ _ a b (fun i hi => h i (by omega))
  | d + 1, p, f, a, b, hp, hf, h => by
    obtain ⟨f, rfl⟩ : ∃ k, f = k + 1 := ⟨f - 1, by omega⟩
    show OP (f_X0_reckon_B8 v1 v2 v3 lo (f_X0_reckon_L8 v1 v2 v3 lo f) (nI p) a) (f_X0_reckon_B8 v1 v2 v3 lo (f_X0_reckon_L8 v1 v2 v3 lo f) (nI p) b)
    unfold f_X0_reckon_B8
    simp only [L0, L1, L2, L3, L4, L5, L6, L7, L8, L9, L10, L11, L12, L13, L19, L20, L26, L31, L32, L33, L48, L49, L50, L51, L57, L59, L60, L61, L98, L99, L100, L108, L112, L115, L127, L128, L200, L201, L255, L256, L257, L400, L401, L420, L459, L999, L1000, L5940]
    have c : ¬ nI 7 < nI p := nI_nlt (by omega) (by omega)
    have step : ∀ x : Int32, OP (f_X0_reckon_L8 v1 v2 v3 lo f (nI (p + 1)) (upd a p x)) (f_X0_reckon_L8 v1 v2 v3 lo f (nI (p + 1)) (upd b p x)) := fun x => ag_8 v1 v2 v3 lo d (p + 1) f _ _ (by omega) (by omega) (fun i hi => by
      by_cases e : i = p
      · subst e; rw [qu_s, qu_s]
      · rw [qu_n e, qu_n e, h i (by omega)])
    rw [if_neg c, if_neg c, qck (show p < 8 by omega) (by omega), qck (show p < 8 by omega) (by omega), qck (show p < 8 by omega) (by omega), qck (show p < 8 by omega) (by omega), qcl (by omega), nI_add]
    by_cases e : nI p = nI 0
    · rw [if_pos e, if_pos e]; exact step _
    · rw [if_neg e, if_neg e]; exact step _
theorem reck_any (zc : Nat → Int32) (v1 v2 v3 : Int32) : OP (f_X0_reckon zc v1 v2 v3) (f_X0_reckon (fun _ => nI 0) v1 v2 v3) := by
  unfold f_X0_reckon
  rw [L0, L1]
  exact ag_8 v1 v2 v3 (nI 1) 8 0 FU _ _ (by omega) (fu (by omega)) (fun i hi => absurd hi (by omega))
theorem odds_fin {c x k v : Nat} (zc : Nat → Int32) (hc : c ≤ 7) (hx : x ≤ 10) (hk : k ≤ 7) (hv : v ≤ 1) : ∃ r, f_X0_reckon zc (nI x) (nI k) (nI c) = some r ∧ f_X8_odds_L49 (nI x) (nI k) (nI v) (nI c) (nI 0) FU (nI 1) (nI 0) = some (if v = 0 then r.1 else r.2.1) := by
  have hP := reck_any zc (nI x) (nI k) (nI c)
  have hS := odd_some c (by omega) x (by omega) k (by omega)
  obtain ⟨q, hq⟩ := Option.isSome_iff_exists.1 hS
  rw [odds_all hc hx hk hv]
  unfold oddC
  rw [hq, qbd]
  rw [hq] at hP
  revert hP
  generalize f_X0_reckon zc (nI x) (nI k) (nI c) = z
  intro hP
  cases z with
  | none => exact hP.elim
  | some r =>
    refine ⟨r, rfl, ?_⟩
    by_cases c : v = 0
    · rw [if_pos c, if_pos c, hP.1]
    · rw [if_neg c, if_neg c, hP.2]
theorem sim_odds {n : Nat} {Y K T : Nat → Nat} {le sh : Nat} {hp hl hs : Int32} {hy hk ht hb td : Nat → Int32} (h : RH n Y K T le sh hp hl hs hy hk ht hb td) {g : Nat → Nat} {a b : Nat} {sp : Nat → Int32} {spr lo' : Int32} {s : Nat → Int32} (hR : RS n g a b sp spr lo' s 0) (zu zl : Int32) (zc : Nat → Int32) (v1 v2 v3 : Int32) : ∃ o1 o2, f_X7_odds hp hl hk hb sp zu zl zc v1 v2 v3 = some o1 ∧ f_X8_odds td s v1 v2 v3 = some o2 ∧ o1.1 = o2 := by
  obtain ⟨o, ho, hbo⟩ := h.srt
  obtain ⟨hn, hle, hsh, rfl, e0, rfl, e1l, rfl, e2l, hj, -⟩ := h
  obtain ⟨w1, w2, w3, w4, w5, w6, w7a, w7b⟩ := hR.get0
  unfold f_X7_odds f_X8_odds
  simp only [L0, L1, L2, L3, L4, L5, L6, L7, L8, L9, L10, L11, L12, L13, L19, L20, L26, L31, L32, L33, L48, L49, L50, L51, L57, L59, L60, L61, L98, L99, L100, L108, L112, L115, L127, L128, L200, L201, L255, L256, L257, L400, L401, L420, L459, L999, L1000, L5940]
  rcases in_cases v1 (a := 0) (b := 10) (by omega) (by omega) with ⟨e1, e2⟩ | ⟨x, -, hx, rfl, e1, e2⟩
  · rw [e1, e2, qbd, qbd, if_pos (show nI 0 = nI 0 from rfl), if_pos (show nI 0 = nI 0 from rfl)]
    exact ⟨_, _, rfl, rfl, rfl⟩
  rw [e1, e2, qbd, qbd, if_neg (show ¬ nI 1 = nI 0 by decide), if_neg (show ¬ nI 1 = nI 0 by decide)]
  rcases in_cases v2 (a := 0) (b := 7) (by omega) (by omega) with ⟨e3, e4⟩ | ⟨k, -, hk7, rfl, e3, e4⟩
  · rw [e3, e4, qbd, qbd, if_pos (show nI 0 = nI 0 from rfl), if_pos (show nI 0 = nI 0 from rfl)]
    exact ⟨_, _, rfl, rfl, rfl⟩
  rw [e3, e4, qbd, qbd, if_neg (show ¬ nI 1 = nI 0 by decide), if_neg (show ¬ nI 1 = nI 0 by decide)]
  rcases in_cases v3 (a := 0) (b := 1) (by omega) (by omega) with ⟨e5, e6⟩ | ⟨v, -, hv, rfl, e5, e6⟩
  · rw [e5, e6, qbd, qbd, if_pos (show nI 0 = nI 0 from rfl), if_pos (show nI 0 = nI 0 from rfl)]
    exact ⟨_, _, rfl, rfl, rfl⟩
  rw [e5, e6, qbd, qbd, if_neg (show ¬ nI 1 = nI 0 by decide), if_neg (show ¬ nI 1 = nI 0 by decide)]
  have hrb := orb_lt7 (rdb le g) hn
  have pl := pc_le (orb (rdb le g) n)
  rw [q_readable (K := K) hn hle.2 ho hbo (fun p hp2 => (hj p hp2).2.2.2.2.2.1) w7a w1, q_allRead hn e0 hle.2 e1l w7b w1]
  rw [qbd, qbd]
  obtain ⟨r, r1, r2⟩ := odds_fin zc pl hx hk7 hv
  rw [q_bc _ hrb, q_ones (by omega), qbd, qbd, r2, r1, qbd]
  by_cases c : v = 0
  · rw [if_pos (show nI v = nI 0 by rw [c]), if_pos c]
    exact ⟨_, _, rfl, rfl, rfl⟩
  · rw [if_neg (show ¬ nI v = nI 0 by rw [nI_eq (by omega) (by omega)]; exact c), if_neg c]
    exact ⟨_, _, rfl, rfl, rfl⟩
