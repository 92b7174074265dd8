/-! checks, fuel, places -/
def ck {α : Type} (b : Bool) (k : Option α) : Option α := match b with
  | true => k
  | false => none
theorem ck_some {α : Type} {b : Bool} {k : Option α} {o : α} (h : ck b k = some o) : b = true ∧ k = some o := by
  cases b with
  | true => exact ⟨rfl, h⟩
  | false => cases h
theorem ck_t {α : Type} {b : Bool} {k : Option α} (h : b = true) : ck b k = k := by subst h; rfl
def ix (i : Int32) (n : Nat) : Bool := decide (0 ≤ i.toInt ∧ i.toInt < (n : Int))
theorem ix_in {i : Int32} {n : Nat} (h : ix i n = true) : vp_in i n := vp_in_iff.mpr (of_decide_eq_true h)
theorem ix_lt {i : Int32} {n : Nat} (h : ix i n = true) : i.toNatClampNeg < n := by
  have h1 := of_decide_eq_true h
  have h2 : i.toNatClampNeg = i.toInt.toNat := rfl
  omega
theorem ix_cases2 {i : Int32} (h : ix i 2 = true) : i.toNatClampNeg = 0 ∨ i.toNatClampNeg = 1 := by have := ix_lt h; omega
theorem ix_cases10 {i : Int32} (h : ix i 10 = true) : i.toNatClampNeg = 0 ∨ i.toNatClampNeg = 1 ∨ i.toNatClampNeg = 2 ∨ i.toNatClampNeg = 3 ∨ i.toNatClampNeg = 4 ∨ i.toNatClampNeg = 5 ∨ i.toNatClampNeg = 6 ∨ i.toNatClampNeg = 7 ∨ i.toNatClampNeg = 8 ∨ i.toNatClampNeg = 9 := by have := ix_lt h; omega
def nz (i : Int32) : Bool := decide (¬ i = 0)
theorem nz_ne {i : Int32} (h : nz i = true) : ¬ i = 0 := of_decide_eq_true h
def bo (r : Int32) : Bool := decide (r = 0 ∨ r = 1)
theorem bo_nar {r : Int32} (h : bo r = true) : narrow .boolean (.int r) = .int r := by
  rcases of_decide_eq_true h with rfl | rfl <;> rfl
theorem bn0 : narrow .boolean (.int 0) = .int 0 := rfl
theorem bn1 : narrow .boolean (.int 1) = .int 1 := rfl
def FU : Nat := 1000
/-- bind, under a name of its own -/
def bd {α β : Type} (x : Option α) (f : α → Option β) : Option β := match x with
  | some a => f a
  | none => none
theorem bd_some {α β : Type} {x : Option α} {f : α → Option β} {o : β} (h : bd x f = some o) : ∃ a, x = some a ∧ f a = some o := by
  cases x with
  | some a => exact ⟨a, rfl, h⟩
  | none => cases h
theorem bd_of {α β : Type} {x : Option α} {f : α → Option β} {a : α} (h : x = some a) : bd x f = f a := by subst h; rfl
theorem if_t {α : Type} {c : Prop} [Decidable c] {a b : α} {o : α} (h : (if c then a else b) = o) (hc : c) : a = o := by rw [if_pos hc] at h; exact h
theorem if_f {α : Type} {c : Prop} [Decidable c] {a b : α} {o : α} (h : (if c then a else b) = o) (hc : ¬ c) : b = o := by rw [if_neg hc] at h; exact h
theorem ii_p1 (x : Int32) : x + Int32.ofInt 1 = x + 1 := by rw [show Int32.ofInt 1 = 1 by decide]
theorem ii_m1 (x : Int32) : x + Int32.ofInt (-1) = x + (-1) := by rw [show Int32.ofInt (-1) = -1 by decide]
theorem ii_p4 (x : Int32) : x + Int32.ofInt 4 = x + 4 := by rw [show Int32.ofInt 4 = 4 by decide]
/-! the environment -/
abbrev TY (cI cZ cR : ClassId) : List (ClassId × FieldType) := [(cI, .int), (cZ, .boolean), (cR, .object RX4)]
def nwF : List (String × Nat × String × String × String × String) := [(RX5, 38, "RainShelves$House", "pans", "I", "RainShelves"), (RX4, 26, "RainShelves$House", "pans", "I", "RainShelves"), (RX6, 61, "RainShelves$House", "pans", "I", "RainShelves"), (RX7, 172, "RainShelves$House", "pans", "I", "RainShelves"), (RX6, 75, "RainShelves$House", "least", "I", "RainShelves"), (RX4, 68, "RainShelves$House", "least", "I", "RainShelves"), (RX7, 190, "RainShelves$House", "least", "I", "RainShelves"), (RX5, 22, "RainShelves$House", "shelf", "I", "RainShelves"), (RX6, 78, "RainShelves$House", "shelf", "I", "RainShelves"), (RX7, 264, "RainShelves$House", "shelf", "I", "RainShelves"), (RX7, 106, "RainShelves$House", "years", "[I", "RainShelves"), (RX4, 43, "RainShelves$House", "years", "[I", "RainShelves"), (RX4, 35, "RainShelves$House", "spoons", "[I", "RainShelves"), (RX7, 110, "RainShelves$House", "shrinks", "[I", "RainShelves"), (RX4, 57, "RainShelves$House", "shrinks", "[I", "RainShelves"), (RX7, 113, "RainShelves$House", "sorts", "[I", "RainShelves"), (RX4, 46, "RainShelves$House", "byAge", "[I", "RainShelves"), (RX7, 80, "RainShelves$Text", "length", "I", "RainShelves"), (RX7, 88, "RainShelves$Text", "draft", "LRainShelves$House;", "RainShelves"), (RX7, 133, "RainShelves$Rain", "springs", "I", "RainShelves"), (RX7, 136, "RainShelves$Rain", "lost", "I", "RainShelves"), (RX7, 97, "RainShelves$History", "known", "I", "RainShelves"), (RX7, 207, "RainShelves$Levels", "springs", "[I", "RainShelves"), (RX7, 205, "RainShelves$Levels", "pans", "[I", "RainShelves"), (RX7, 209, "RainShelves$Levels", "spoons", "[I", "RainShelves"), (RX7, 100, "RainShelves$Levels", "size", "I", "RainShelves"), (RX7, 227, "RainShelves$Frost", "upper", "I", "RainShelves"), (RX7, 230, "RainShelves$Frost", "lower", "I", "RainShelves")]
def nwM : List (String × Nat × MethodName × String) := [(RX7, 9, yX2_init, "RainShelves"), (RX7, 18, yX6_init, "RainShelves"), (RX6, 17, yX2_init, "RainShelves"), (RX7, 25, yX4_init, "RainShelves"), (RX7, 34, yX1_init, "RainShelves"), (RX1, 17, yX4_init, "RainShelves"), (RX7, 49, yX3_init, "RainShelves"), (RX7, 56, yX5_init, "RainShelves"), (RX7, 63, yX0_init, "RainShelves"), (RX7, 76, yX6_append, "RainShelves"), (RX7, 84, yX6_read, "RainShelves"), (RX6, 26, yX2_empty, "RainShelves"), (RX6, 71, yX2_append, "RainShelves"), (RX7, 91, yX2_become, "RainShelves"), (RX7, 94, yX4_fill, "RainShelves"), (RX7, 103, yX2_has, "RainShelves"), (RX7, 116, yX4_inPan, "RainShelves"), (RX7, 120, yX4_canBeRead, "RainShelves"), (RX7, 123, yX4_tasteOf, "RainShelves"), (RX7, 126, yX4_whereIs, "RainShelves"), (RX7, 129, yX4_amount, "RainShelves"), (RX7, 139, yX4_inAll, "RainShelves"), (RX7, 142, yX4_readable, "RainShelves"), (RX7, 145, yX4_wettest, "RainShelves"), (RX7, 148, yX1_remember, "RainShelves"), (RX1, 24, yX4_become, "RainShelves"), (RX7, 152, yX4_take, "RainShelves"), (RX7, 156, yX4_passSpring, "RainShelves"), (RX7, 159, yX1_restore, "RainShelves"), (RX7, 162, yX4_canBeReadIn, "RainShelves"), (RX7, 180, yX5_weigh, "RainShelves"), (RX5, 28, yX2_hailPans, "RainShelves"), (RX5, 41, yX4_inPan, "RainShelves"), (RX7, 184, yX5_bestFire, "RainShelves"), (RX7, 187, yX5_countLeft, "RainShelves"), (RX7, 193, yX2_spoonsOfLesser, "RainShelves"), (RX7, 197, yX3_append, "RainShelves"), (RX7, 212, yX5_fewestShelves, "RainShelves"), (RX7, 215, yX5_mostBeside, "RainShelves"), (RX7, 223, yX0_reckon, "RainShelves"), (RX7, 262, yX4_become, "RainShelves")]
def EV (D : va_G) (cI cZ cR : ClassId) (U : State) : Prop := va_K D vwCl (TY cI cZ cR) U ∧ (∀ q ∈ nwF, va_Nw (.fieldLinkNest q.1 q.2.1 q.2.2.1 q.2.2.2.1 q.2.2.2.2.1 q.2.2.2.2.2) U) ∧ (∀ q ∈ nwM, va_Nw (.methodLinkNest q.1 q.2.1 q.2.2.1 q.2.2.2) U) ∧ va_AO RX4 U
theorem EV.warm {D : va_G} {cI cZ cR : ClassId} {s U : State} (hW : s.WarmedH U.vm) (h : EV D cI cZ cR s) : EV D cI cZ cR U := ⟨h.1.moved hW.alike, fun q hq => va_Nw.warmF hW (h.2.1 q hq), fun q hq => va_Nw.warmM hW (h.2.2.1 q hq), h.2.2.2.moved hW.alike⟩
theorem EV.blind {D : va_G} {cI cZ cR : ClassId} {U : State} (g : JFrame) (mk : MethodId) (a : Array Value) (h : EV D cI cZ cR U) : EV D cI cZ cR (U.calling g mk a) :=
  ⟨va_K.moved (u := U) (U := U.calling g mk a) (Vm.Alike.refl U.vm) h.1, fun q hq => va_Nw.same (u := U) (U := U.calling g mk a) rfl rfl (h.2.1 q hq), fun q hq => va_Nw.same (u := U) (U := U.calling g mk a) rfl rfl (h.2.2.1 q hq), va_AO.moved (u := U) (U := U.calling g mk a) (Vm.Alike.refl U.vm) h.2.2.2⟩
theorem EV.nf {D : va_G} {cI cZ cR : ClassId} {s : State} {args : Array Value} (h : EV D cI cZ cR s) (i : Nat) {a b n d ho : String} {k : Nat} (hi : nwF[i]? = some (a, k, b, n, d, ho)) : (Cond.fieldLinkNest a k b n d ho).before args s = true := va_Nw.use rfl (h.2.1 _ (List.mem_of_getElem? hi))
theorem EV.nm {D : va_G} {cI cZ cR : ClassId} {s : State} (h : EV D cI cZ cR s) (i : Nat) {a ho : String} {x : MethodName} {k : Nat} (hi : nwM[i]? = some (a, k, x, ho)) : va_Nw (.methodLinkNest a k x ho) s := h.2.2.1 _ (List.mem_of_getElem? hi)
/-! cells put back at their places -/
def lk (k : Nat) : List Nat → va_W → Option (Nat × va_E)
  | i :: is, x :: xs => match Nat.beq i k with
    | true => some x
    | false => lk k is xs
  | [], _ => none
  | _ :: _, [] => none
def rpx (is : List Nat) (w' : va_W) : Nat → va_W → va_W
  | _, [] => []
  | k, q :: t => (match lk k is w' with
    | some x => x
    | none => q) :: rpx is w' (k + 1) t
def rp (ws : va_W) (is : List Nat) (w' : va_W) : va_W := rpx is w' 0 ws
theorem rpx_nil (w' : va_W) : ∀ (k : Nat) (ws : va_W), rpx [] w' k ws = ws
  | _, [] => rfl
  | k, q :: t => by
    unfold rpx
    rw [rpx_nil w' (k + 1) t]
    cases w' <;> rfl
theorem rp_nil (ws : va_W) : rp ws [] [] = ws := rpx_nil [] 0 ws
theorem lk_some {k : Nat} {x : Nat × va_E} : ∀ {is : List Nat} {w' : va_W}, lk k is w' = some x → ∃ j : Nat, is[j]? = some k ∧ w'[j]? = some x
  | [], w', h => by cases h
  | i :: is, [], h => by cases h
  | i :: is, y :: ys, h => by
    unfold lk at h
    cases hb : Nat.beq i k with
    | true =>
      rw [hb] at h
      exact ⟨0, by simpa using Nat.eq_of_beq_eq_true hb, by simpa using h⟩
    | false =>
      rw [hb] at h
      obtain ⟨j, h1, h2⟩ := lk_some h
      exact ⟨j + 1, by simpa using h1, by simpa using h2⟩
theorem lk_none {k : Nat} : ∀ {is : List Nat} {w' : va_W}, is.length = w'.length → lk k is w' = none → k ∉ is
  | [], w', _, _ => List.not_mem_nil
  | i :: is, [], hl, _ => by simp at hl
  | i :: is, y :: ys, hl, h => by
    unfold lk at h
    cases hb : Nat.beq i k with
    | true => rw [hb] at h; cases h
    | false =>
      rw [hb] at h
      have h1 := lk_none (by simpa using hl) h
      intro hm
      rcases List.mem_cons.mp hm with e | e
      · subst e
        rw [Nat.beq_refl] at hb
        cases hb
      · exact h1 e
theorem rpx_get (is : List Nat) (w' : va_W) : ∀ (ws : va_W) (k j : Nat), (rpx is w' k ws)[j]? = (ws[j]?).map (fun q => match lk (k + j) is w' with
    | some x => x
    | none => q)
  | [], k, j => by simp [rpx]
  | q :: t, k, 0 => by simp [rpx]
  | q :: t, k, j + 1 => by
    have e := rpx_get is w' t (k + 1) j
    rw [show k + 1 + j = k + (j + 1) by omega] at e
    simpa [rpx] using e
theorem rp_get (is : List Nat) (w' ws : va_W) (k : Nat) (q : Nat × va_E) (hl : is.length = w'.length) (h : (rp ws is w')[k]? = some q) : (∃ j : Nat, is[j]? = some k ∧ w'[j]? = some q) ∨ (k ∉ is ∧ ws[k]? = some q) := by
  unfold rp at h
  rw [rpx_get, Nat.zero_add] at h
  cases hw : ws[k]? with
  | none => rw [hw] at h; cases h
  | some q0 =>
    rw [hw] at h
    cases hk : lk k is w' with
    | some x =>
      rw [hk] at h
      cases h
      exact Or.inl (lk_some hk)
    | none =>
      rw [hk] at h
      cases h
      exact Or.inr ⟨lk_none hl hk, rfl⟩
theorem rp_fst (is : List Nat) (w' ws : va_W) (h : ∀ (j i : Nat) (x : Nat × va_E), is[j]? = some i → w'[j]? = some x → (ws.map (fun q => q.1))[i]? = some x.1) : (rp ws is w').map (fun q => q.1) = ws.map (fun q => q.1) := by
  apply List.ext_getElem?
  intro k
  unfold rp
  rw [List.getElem?_map, rpx_get, Nat.zero_add, List.getElem?_map]
  cases hw : ws[k]? with
  | none => rfl
  | some q0 =>
    cases hk : lk k is w' with
    | none => rfl
    | some x =>
      obtain ⟨j, h1, h2⟩ := lk_some hk
      have h3 := h j k x h1 h2
      rw [List.getElem?_map, hw] at h3
      exact h3.symm
theorem va_D.of_fst {A : Nat → Prop} {w1 w2 : va_W} (h : w1.map (fun q => q.1) = w2.map (fun q => q.1)) (hD : va_D A w2) : va_D A w1 := by
  have key : ∀ (k : Nat) (q : Nat × va_E), w1[k]? = some q → ∃ q2 : Nat × va_E, w2[k]? = some q2 ∧ q2.1 = q.1 := by
    intro k q hk
    have e : (w1.map (fun q => q.1))[k]? = some q.1 := by rw [List.getElem?_map, hk]; rfl
    rw [h, List.getElem?_map] at e
    cases hw : w2[k]? with
    | none => rw [hw] at e; cases e
    | some q2 => rw [hw] at e; exact ⟨q2, rfl, Option.some.inj e⟩
  refine ⟨fun i j p q h1 h2 h3 => ?_, fun k q hk => ?_⟩
  · obtain ⟨p2, a1, a2⟩ := key i p h1
    obtain ⟨q2, b1, b2⟩ := key j q h2
    exact hD.1 i j p2 q2 a1 b1 (by rw [a2, b2, h3])
  · obtain ⟨q2, a1, a2⟩ := key k q hk
    rw [← a2]
    exact hD.2 k q2 a1
theorem rp_places {is : List Nat} {w ws : va_W} (h1 : is.map (fun i => ws[i]?) = w.map some) {j : Nat} {q : Nat × va_E} (hj : w[j]? = some q) : ∃ i : Nat, is[j]? = some i ∧ ws[i]? = some q := by
  have e : (is.map (fun i => ws[i]?))[j]? = some (some q) := by rw [h1, List.getElem?_map, hj]; rfl
  rw [List.getElem?_map] at e
  cases hi : is[j]? with
  | none => rw [hi] at e; cases e
  | some i => rw [hi] at e; exact ⟨i, rfl, Option.some.inj e⟩
theorem rp_P {D : va_G} {cl : List vw_C} {A : Nat → Prop} {ws w w' : va_W} {H H1 : Heap} {is : List Nat} (hP : va_P D cl ws H) (hD : va_D A ws) (h1 : is.map (fun i => ws[i]?) = w.map some) (hf : w'.map (fun q => q.1) = w.map (fun q => q.1))
    (hk : ∀ q : Nat, q < H.size → ¬ va_A w H.size q → H1[q]? = H[q]?) (hP1 : va_P D cl w' H1) : va_P D cl (rp ws is w') H1 := by
  have hlen : is.length = w'.length := by
    have a := congrArg List.length h1
    have b := congrArg List.length hf
    simp only [List.length_map] at a b
    omega
  intro k q hq
  rcases rp_get is w' ws k q hlen hq with ⟨j, -, h2⟩ | ⟨h2, h3⟩
  · exact hP1 j q h2
  · have hat := hP k q h3
    refine hat.kept (hk q.1 hat.lt ?_)
    rintro (⟨j, ee, hj⟩ | hge)
    · obtain ⟨i, hi, hwi⟩ := rp_places h1 hj
      have : i = k := hD.1 i k _ _ hwi h3 rfl
      subst this
      exact h2 (List.mem_of_getElem? hi)
    · exact absurd hat.lt (Nat.not_lt.mpr hge)
theorem rp_D {A : Nat → Prop} {ws w w' : va_W} {is : List Nat} (hD : va_D A ws) (h1 : is.map (fun i => ws[i]?) = w.map some) (hf : w'.map (fun q => q.1) = w.map (fun q => q.1)) : va_D A (rp ws is w') := by
  refine va_D.of_fst (rp_fst is w' ws (fun j i x hj hx => ?_)) hD
  have e : (w.map (fun q => q.1))[j]? = some x.1 := by rw [← hf, List.getElem?_map, hx]; rfl
  rw [List.getElem?_map] at e
  cases hw : w[j]? with
  | none => rw [hw] at e; cases e
  | some q =>
    rw [hw] at e
    obtain ⟨i', hi', hwi⟩ := rp_places h1 hw
    rw [hj] at hi'
    cases hi'
    rw [List.getElem?_map, hwi]
    exact e
/-! contracts: the world w, an answer r, the world w' behind; no cell is new -/
def cP (D : va_G) (cI cZ cR : ClassId) (w : va_W) (sz : Nat) (U : State) : Prop := U.heap.size = sz ∧ va_P D vwCl w U.heap ∧ EV D cI cZ cR U ∧ va_D (fun _ => True) w
def cB (D : va_G) (A : Nat → Prop) (w' : va_W) (t : State) : Prop := va_P D vwCl w' t.heap ∧ va_D A w'
def Ci (l : Launch) (y : MethodName) (wsm : List Cond) (rm : Room) (D : va_G) (cI cZ cR : ClassId) (av : List Value) (w : va_W) (r : Int32) (w' : va_W) : Prop := ∀ sz : Nat, Met l y wsm rm (va_Pc av (cP D cI cZ cR w sz)) (va_Qi (fun r' (_ : Unit) => r' = r) (fun _ t => cB D (va_A w sz) w' t) (va_A w sz)) 0 0 (va_A w sz)
def Cl (l : Launch) (y : MethodName) (wsm : List Cond) (rm : Room) (D : va_G) (cI cZ cR : ClassId) (av : List Value) (w : va_W) (r : Int64) (w' : va_W) : Prop := ∀ sz : Nat, Met l y wsm rm (va_Pc av (cP D cI cZ cR w sz)) (va_Ql (fun r' (_ : Unit) => r' = r) (fun _ t => cB D (va_A w sz) w' t) (va_A w sz)) 0 0 (va_A w sz)
def Cv (l : Launch) (y : MethodName) (wsm : List Cond) (rm : Room) (D : va_G) (cI cZ cR : ClassId) (av : List Value) (w : va_W) (w' : va_W) : Prop := ∀ sz : Nat, Met l y wsm rm (va_Pc av (cP D cI cZ cR w sz)) (va_Qv (fun (_ : Unit) => True) (fun _ t => cB D (va_A w sz) w' t) (va_A w sz)) 0 0 (va_A w sz)
theorem cP_blind {D : va_G} {cI cZ cR : ClassId} {av : List Value} {w : va_W} {sz : Nat} : FrameBlind (va_Pc av (cP D cI cZ cR w sz)) := fun a U g mk h => ⟨h.1, h.2.1, h.2.2.1, h.2.2.2.1.blind g mk a, h.2.2.2.2⟩
def PD (D : va_G) (A : Nat → Prop) (w : va_W) (H : Heap) : Prop := va_P D vwCl w H ∧ va_D A w
section ENT
variable {l : Launch} {y : MethodName} {wsm ws' : List Cond} {rm : Room} {D : va_G} {cI cZ cR : ClassId} {av : List Value} {w w' : va_W} {cc : ByteArray} {maxL : Nat}
theorem ent_i {r : Int32} (ty : FieldType) (hy : plainName y.cls = true) (hw : wsm = Cond.code y cc maxL (some ty) :: ws') (hlen : (lg_sl av).length ≤ maxL)
    (body : ∀ (p : Program) (e : Env) (s : State) (m : MethodId) (below : List Frame) (meth : Method) (c : Code) (A : Nat → Prop) (Q : State → Prop),
      p.tables.exec = Jvm.exec → c.code = cc → c.maxLocals = maxL → s.vm.findClass y.cls = some m.cls → (∀ x ∈ wsm, x.before av.toArray s = true) → EV D cI cZ cR s → (∀ q : Nat, s.heap.size ≤ q → A q) → va_P D vwCl w s.heap → va_D A w → va_S A s.heap s.heap [] →
      (∀ (H : Heap) (locs : List Loc) (pc : Nat) (ls : Array Slot), decode cc pc = .ok (.ireturn, 1) → narrow ty (.int r) = .int r → va_P D vwCl w' H → va_D A w' → va_S A s.heap H locs → W p l e rm s m av.toArray below meth c H locs 0 0 Q (F0 m pc ls [.int r])) →
      ∀ ls : Array Slot, lv_has ls maxL (lv_args 0 av) → W p l e rm s m av.toArray below meth c s.heap [] 0 0 Q (F0 m 0 ls [])) : Ci l y wsm rm D cI cZ cR av w r w' := by
  intro sz
  refine Met.ofW (cc := cc) (maxL := maxL) (ret := some ty) hy hw ?_
  intro p e s m args below meth c s₁ B hml hv
  obtain ⟨rfl, hsz, hP, hE, hD0⟩ := hv
  subst hsz
  have hlocks := B.notSynchronized
  rw [lg_entry_eq]
  refine body p e s m below meth c (va_A w s.heap.size) _ B.exec B.bytes hml (findClass_of_methodNamed B.named) (atoms_spec (ws := wsm) B.pre) hE (fun q h => Or.inr h) hP hD0.self va_S.rf ?_ _ (lv_entry av (n := maxL) hlen)
  intro H locs pc ls hd hn hP1 hD1 hS
  exact W.zret (v := r) B.exec B.bytes B.returns hn (fun t ht hW => ⟨⟨r, (), rfl, rfl, by rw [← ht] at hP1; exact hP1, hD1⟩, hS.F ht⟩) hS.2.2 hd
theorem ent_l {r : Int64} (hy : plainName y.cls = true) (hw : wsm = Cond.code y cc maxL (some .long) :: ws') (hlen : (lg_sl av).length ≤ maxL)
    (body : ∀ (p : Program) (e : Env) (s : State) (m : MethodId) (below : List Frame) (meth : Method) (c : Code) (A : Nat → Prop) (Q : State → Prop),
      p.tables.exec = Jvm.exec → c.code = cc → c.maxLocals = maxL → s.vm.findClass y.cls = some m.cls → (∀ x ∈ wsm, x.before av.toArray s = true) → EV D cI cZ cR s → (∀ q : Nat, s.heap.size ≤ q → A q) → va_P D vwCl w s.heap → va_D A w → va_S A s.heap s.heap [] →
      (∀ (H : Heap) (locs : List Loc) (pc : Nat) (ls : Array Slot), decode cc pc = .ok (.lreturn, 1) → va_P D vwCl w' H → va_D A w' → va_S A s.heap H locs → W p l e rm s m av.toArray below meth c H locs 0 0 Q (F0 m pc ls [.long r])) →
      ∀ ls : Array Slot, lv_has ls maxL (lv_args 0 av) → W p l e rm s m av.toArray below meth c s.heap [] 0 0 Q (F0 m 0 ls [])) : Cl l y wsm rm D cI cZ cR av w r w' := by
  intro sz
  refine Met.ofW (cc := cc) (maxL := maxL) (ret := some .long) hy hw ?_
  intro p e s m args below meth c s₁ B hml hv
  obtain ⟨rfl, hsz, hP, hE, hD0⟩ := hv
  subst hsz
  have hlocks := B.notSynchronized
  rw [lg_entry_eq]
  refine body p e s m below meth c (va_A w s.heap.size) _ B.exec B.bytes hml (findClass_of_methodNamed B.named) (atoms_spec (ws := wsm) B.pre) hE (fun q h => Or.inr h) hP hD0.self va_S.rf ?_ _ (lv_entry av (n := maxL) hlen)
  intro H locs pc ls hd hP1 hD1 hS
  exact W.lret (v := r) B.exec B.bytes B.returns (fun t ht hW => ⟨⟨r, (), rfl, rfl, by rw [← ht] at hP1; exact hP1, hD1⟩, hS.F ht⟩) hS.2.2 hd
theorem ent_v (hy : plainName y.cls = true) (hw : wsm = Cond.code y cc maxL none :: ws') (hlen : (lg_sl av).length ≤ maxL)
    (body : ∀ (p : Program) (e : Env) (s : State) (m : MethodId) (below : List Frame) (meth : Method) (c : Code) (A : Nat → Prop) (Q : State → Prop),
      p.tables.exec = Jvm.exec → c.code = cc → c.maxLocals = maxL → s.vm.findClass y.cls = some m.cls → (∀ x ∈ wsm, x.before av.toArray s = true) → EV D cI cZ cR s → (∀ q : Nat, s.heap.size ≤ q → A q) → va_P D vwCl w s.heap → va_D A w → va_S A s.heap s.heap [] →
      (∀ (H : Heap) (locs : List Loc) (pc : Nat) (ls : Array Slot), decode cc pc = .ok (.return_, 1) → va_P D vwCl w' H → va_D A w' → va_S A s.heap H locs → W p l e rm s m av.toArray below meth c H locs 0 0 Q (F0 m pc ls [])) →
      ∀ ls : Array Slot, lv_has ls maxL (lv_args 0 av) → W p l e rm s m av.toArray below meth c s.heap [] 0 0 Q (F0 m 0 ls [])) : Cv l y wsm rm D cI cZ cR av w w' := by
  intro sz
  refine Met.ofW (cc := cc) (maxL := maxL) (ret := none) hy hw ?_
  intro p e s m args below meth c s₁ B hml hv
  obtain ⟨rfl, hsz, hP, hE, hD0⟩ := hv
  subst hsz
  have hlocks := B.notSynchronized
  rw [lg_entry_eq]
  refine body p e s m below meth c (va_A w s.heap.size) _ B.exec B.bytes hml (findClass_of_methodNamed B.named) (atoms_spec (ws := wsm) B.pre) hE (fun q h => Or.inr h) hP hD0.self va_S.rf ?_ _ (lv_entry av (n := maxL) hlen)
  intro H locs pc ls hd hP1 hD1 hS
  exact W.vret B.exec B.bytes B.returns (fun t ht hW => ⟨⟨(), rfl, trivial, by rw [← ht] at hP1; exact hP1, hD1⟩, hS.F ht⟩) hS.2.2 hd
end ENT
section CALL
variable {p : Program} {l : Launch} {e : Env} {R : Room} {s : State} {m : MethodId} {args : Array Value} {below : List Frame} {meth : Method} {c : Code} {H : Heap} {locs : List Loc} {cells slots : Nat} {Q : State → Prop}
variable {y : MethodName} {bytes cc : ByteArray} {maxL nL n index pc : Nat} {ret : Option FieldType} {wsm Ts : List Cond} {rm : Room} {own C host : String} {b : Addr} {As rest st0 : List Value} {ls : Array Slot} {D : va_G} {cI cZ cR : ClassId} {A : Nat → Prop} {ws w w' : va_W} {H0 : Heap}
theorem cl_i {r : Int32} {a : Array Value} (hr : va_Run p l e R s m args below meth c H locs cells slots 0 0 (F0 m pc ls st0) rest (va_Qi (fun r' (_ : Unit) => r' = r) (fun _ t => cB D (va_A w H.size) w' t) (va_A w H.size) a) (va_A w H.size))
    (hP : va_P D vwCl ws H) (hD : va_D A ws) (hS : va_S A H0 H locs) (hA : ∀ q : Nat, H0.size ≤ q → A q) (is : List Nat) (h1 : is.map (fun i => ws[i]?) = w.map some) (hf : w'.map (fun q => q.1) = w.map (fun q => q.1))
    (kk : ∀ (H1 : Heap) (locs1 : List Loc), va_P D vwCl (rp ws is w') H1 → va_D A (rp ws is w') → va_S A H0 H1 locs1 → W p l e R s m args below meth c H1 locs1 cells slots Q (F0 m (pc + 3) ls (.int r :: rest))) : W p l e R s m args below meth c H locs cells slots Q (F0 m pc ls st0) := by
  have hF := va_free (wc := w) hD hS hA is h1
  refine va_calli hr hS (fun q _ h => hF q h) hF (fun r' u t H1 locs1 ht _ hr' hB _ hk hS1 => ?_)
  subst hr'
  obtain ⟨hP1, _⟩ := hB
  rw [ht] at hP1
  exact kk H1 locs1 (rp_P hP hD h1 hf hk hP1) (rp_D hD h1 hf) hS1
theorem cl_l {r : Int64} {a : Array Value} (hr : va_Run p l e R s m args below meth c H locs cells slots 0 0 (F0 m pc ls st0) rest (va_Ql (fun r' (_ : Unit) => r' = r) (fun _ t => cB D (va_A w H.size) w' t) (va_A w H.size) a) (va_A w H.size))
    (hP : va_P D vwCl ws H) (hD : va_D A ws) (hS : va_S A H0 H locs) (hA : ∀ q : Nat, H0.size ≤ q → A q) (is : List Nat) (h1 : is.map (fun i => ws[i]?) = w.map some) (hf : w'.map (fun q => q.1) = w.map (fun q => q.1))
    (kk : ∀ (H1 : Heap) (locs1 : List Loc), va_P D vwCl (rp ws is w') H1 → va_D A (rp ws is w') → va_S A H0 H1 locs1 → W p l e R s m args below meth c H1 locs1 cells slots Q (F0 m (pc + 3) ls (.long r :: rest))) : W p l e R s m args below meth c H locs cells slots Q (F0 m pc ls st0) := by
  have hF := va_free (wc := w) hD hS hA is h1
  refine va_calll hr hS (fun q _ h => hF q h) hF (fun r' u t H1 locs1 ht _ hr' hB _ hk hS1 => ?_)
  subst hr'
  obtain ⟨hP1, _⟩ := hB
  rw [ht] at hP1
  exact kk H1 locs1 (rp_P hP hD h1 hf hk hP1) (rp_D hD h1 hf) hS1
theorem cl_v {a : Array Value} (hr : va_Run p l e R s m args below meth c H locs cells slots 0 0 (F0 m pc ls st0) rest (va_Qv (fun (_ : Unit) => True) (fun _ t => cB D (va_A w H.size) w' t) (va_A w H.size) a) (va_A w H.size))
    (hP : va_P D vwCl ws H) (hD : va_D A ws) (hS : va_S A H0 H locs) (hA : ∀ q : Nat, H0.size ≤ q → A q) (is : List Nat) (h1 : is.map (fun i => ws[i]?) = w.map some) (hf : w'.map (fun q => q.1) = w.map (fun q => q.1))
    (kk : ∀ (H1 : Heap) (locs1 : List Loc), va_P D vwCl (rp ws is w') H1 → va_D A (rp ws is w') → va_S A H0 H1 locs1 → W p l e R s m args below meth c H1 locs1 cells slots Q (F0 m (pc + 3) ls rest)) : W p l e R s m args below meth c H locs cells slots Q (F0 m pc ls st0) := by
  have hF := va_free (wc := w) hD hS hA is h1
  refine va_callv hr hS (fun q _ h => hF q h) hF (fun u t H1 locs1 ht _ _ hB _ hk hS1 => ?_)
  obtain ⟨hP1, _⟩ := hB
  rw [ht] at hP1
  exact kk H1 locs1 (rp_P hP hD h1 hf hk hP1) (rp_D hD h1 hf) hS1
theorem pre_s (hE : EV D cI cZ cR s) (hP : va_P D vwCl ws H) (hD : va_D A ws) (is : List Nat) (h1 : is.map (fun i => ws[i]?) = w.map some) (hn : va_nd is = true) (av : List Value) : PreS s H (va_Pc av (cP D cI cZ cR w H.size)) av := by
  have hPc : va_P D vwCl w H := fun j q hj => by
    obtain ⟨i, _, hi⟩ := rp_places h1 hj
    exact hP i q hi
  have hDc : va_D (fun _ => True) w := (hD.sub is hn h1).weaken (fun _ _ _ _ => trivial)
  exact ⟨cP_blind, fun U hU hW => ⟨rfl, by rw [hU], by rw [hU]; exact hPc, hE.warm hW, hDc⟩⟩
theorem pre_v (hE : EV D cI cZ cR s) (hP : va_P D vwCl ws H) (hD : va_D A ws) (is : List Nat) (h1 : is.map (fun i => ws[i]?) = w.map some) (hn : va_nd is = true) (q0 ci : Nat) {T : u_T} {N : Nat} {fs : List Value} (he : ws[q0]? = some (b, .inr (ci, fs))) (hc : vwCl[ci]? = some (C, T, N)) : PreV s H C b (va_Pc (.ref b :: As) (cP D cI cZ cR w H.size)) As :=
  ⟨cP_blind, va_recv hE.1 hP hc he, (pre_s hE hP hD is h1 hn (.ref b :: As)).2⟩
theorem cl_iV {r : Int32} (S : CallFix p m c cc nL s args Ts own) (hM : Ci l y wsm rm D cI cZ cR (.ref b :: As) w r w') (cw : CallW R s args own C index y bytes maxL ret wsm rm 0 0 n) (hE : EV D cI cZ cR s)
    (hP : va_P D vwCl ws H) (hD : va_D A ws) (hS : va_S A H0 H locs) (hA : ∀ q : Nat, H0.size ≤ q → A q) (is : List Nat) (h1 : is.map (fun i => ws[i]?) = w.map some) (hnd : va_nd is = true) (as : List Nat) (ha1 : w.map (fun q => q.1) = as) (ha2 : w'.map (fun q => q.1) = as)
    (q0 ci : Nat) {T : u_T} {N : Nat} {fs : List Value} (he : ws[q0]? = some (b, .inr (ci, fs))) (hc : vwCl[ci]? = some (C, T, N))
    (hn : As.length = n) (hsize : ls.size = nL) (hst : st0 = As.reverse ++ .ref b :: rest) (hW : (rest.map fun v => v.category).sum ≤ 8) (hdg : decode cc pc = .ok (.invokevirtual index, 3)) (hcs : cells ≤ R.cells ∧ slots ≤ R.slots)
    (kk : ∀ (H1 : Heap) (locs1 : List Loc), va_P D vwCl (rp ws is w') H1 → va_D A (rp ws is w') → va_S A H0 H1 locs1 → W p l e R s m args below meth c H1 locs1 cells slots Q (F0 m (pc + 3) ls (.int r :: rest))) : W p l e R s m args below meth c H locs cells slots Q (F0 m pc ls st0) :=
  cl_i (va_runV S (hM H.size) cw (pre_v hE hP hD is h1 hnd q0 ci he hc) rfl hn hsize hst (lv_room hW) hdg hcs) hP hD hS hA is h1 (ha2.trans ha1.symm) kk
theorem cl_lV {r : Int64} (S : CallFix p m c cc nL s args Ts own) (hM : Cl l y wsm rm D cI cZ cR (.ref b :: As) w r w') (cw : CallW R s args own C index y bytes maxL ret wsm rm 0 0 n) (hE : EV D cI cZ cR s)
    (hP : va_P D vwCl ws H) (hD : va_D A ws) (hS : va_S A H0 H locs) (hA : ∀ q : Nat, H0.size ≤ q → A q) (is : List Nat) (h1 : is.map (fun i => ws[i]?) = w.map some) (hnd : va_nd is = true) (as : List Nat) (ha1 : w.map (fun q => q.1) = as) (ha2 : w'.map (fun q => q.1) = as)
    (q0 ci : Nat) {T : u_T} {N : Nat} {fs : List Value} (he : ws[q0]? = some (b, .inr (ci, fs))) (hc : vwCl[ci]? = some (C, T, N))
    (hn : As.length = n) (hsize : ls.size = nL) (hst : st0 = As.reverse ++ .ref b :: rest) (hW : (rest.map fun v => v.category).sum ≤ 8) (hdg : decode cc pc = .ok (.invokevirtual index, 3)) (hcs : cells ≤ R.cells ∧ slots ≤ R.slots)
    (kk : ∀ (H1 : Heap) (locs1 : List Loc), va_P D vwCl (rp ws is w') H1 → va_D A (rp ws is w') → va_S A H0 H1 locs1 → W p l e R s m args below meth c H1 locs1 cells slots Q (F0 m (pc + 3) ls (.long r :: rest))) : W p l e R s m args below meth c H locs cells slots Q (F0 m pc ls st0) :=
  cl_l (va_runV S (hM H.size) cw (pre_v hE hP hD is h1 hnd q0 ci he hc) rfl hn hsize hst (lv_room hW) hdg hcs) hP hD hS hA is h1 (ha2.trans ha1.symm) kk
theorem cl_vV (S : CallFix p m c cc nL s args Ts own) (hM : Cv l y wsm rm D cI cZ cR (.ref b :: As) w w') (cw : CallW R s args own C index y bytes maxL ret wsm rm 0 0 n) (hE : EV D cI cZ cR s)
    (hP : va_P D vwCl ws H) (hD : va_D A ws) (hS : va_S A H0 H locs) (hA : ∀ q : Nat, H0.size ≤ q → A q) (is : List Nat) (h1 : is.map (fun i => ws[i]?) = w.map some) (hnd : va_nd is = true) (as : List Nat) (ha1 : w.map (fun q => q.1) = as) (ha2 : w'.map (fun q => q.1) = as)
    (q0 ci : Nat) {T : u_T} {N : Nat} {fs : List Value} (he : ws[q0]? = some (b, .inr (ci, fs))) (hc : vwCl[ci]? = some (C, T, N))
    (hn : As.length = n) (hsize : ls.size = nL) (hst : st0 = As.reverse ++ .ref b :: rest) (hW : (rest.map fun v => v.category).sum ≤ 8) (hdg : decode cc pc = .ok (.invokevirtual index, 3)) (hcs : cells ≤ R.cells ∧ slots ≤ R.slots)
    (kk : ∀ (H1 : Heap) (locs1 : List Loc), va_P D vwCl (rp ws is w') H1 → va_D A (rp ws is w') → va_S A H0 H1 locs1 → W p l e R s m args below meth c H1 locs1 cells slots Q (F0 m (pc + 3) ls rest)) : W p l e R s m args below meth c H locs cells slots Q (F0 m pc ls st0) :=
  cl_v (va_runV S (hM H.size) cw (pre_v hE hP hD is h1 hnd q0 ci he hc) rfl hn hsize hst (lv_room hW) hdg hcs) hP hD hS hA is h1 (ha2.trans ha1.symm) kk
theorem cl_iN {r : Int32} (S : CallFix p m c cc nL s args Ts own) (hM : Ci l y wsm rm D cI cZ cR (.ref b :: As) w r w') (cw : va_CN R s args own index y host bytes maxL ret wsm rm 0 0 n ∧ (Cond.instanceMethod y).before args s = true ∧ (Cond.selects C y y).before args s = true) (hE : EV D cI cZ cR s)
    (hP : va_P D vwCl ws H) (hD : va_D A ws) (hS : va_S A H0 H locs) (hA : ∀ q : Nat, H0.size ≤ q → A q) (is : List Nat) (h1 : is.map (fun i => ws[i]?) = w.map some) (hnd : va_nd is = true) (as : List Nat) (ha1 : w.map (fun q => q.1) = as) (ha2 : w'.map (fun q => q.1) = as)
    (q0 ci : Nat) {T : u_T} {N : Nat} {fs : List Value} (he : ws[q0]? = some (b, .inr (ci, fs))) (hc : vwCl[ci]? = some (C, T, N))
    (hn : As.length = n) (hsize : ls.size = nL) (hst : st0 = As.reverse ++ .ref b :: rest) (hW : (rest.map fun v => v.category).sum ≤ 8) (hdg : decode cc pc = .ok (.invokevirtual index, 3)) (hcs : cells ≤ R.cells ∧ slots ≤ R.slots)
    (kk : ∀ (H1 : Heap) (locs1 : List Loc), va_P D vwCl (rp ws is w') H1 → va_D A (rp ws is w') → va_S A H0 H1 locs1 → W p l e R s m args below meth c H1 locs1 cells slots Q (F0 m (pc + 3) ls (.int r :: rest))) : W p l e R s m args below meth c H locs cells slots Q (F0 m pc ls st0) :=
  cl_i (va_runVN S (hM H.size) cw (pre_v hE hP hD is h1 hnd q0 ci he hc) rfl hn hsize hst (lv_room hW) hdg hcs) hP hD hS hA is h1 (ha2.trans ha1.symm) kk
theorem cl_vN (S : CallFix p m c cc nL s args Ts own) (hM : Cv l y wsm rm D cI cZ cR (.ref b :: As) w w') (cw : va_CN R s args own index y host bytes maxL ret wsm rm 0 0 n ∧ (Cond.instanceMethod y).before args s = true ∧ (Cond.selects C y y).before args s = true) (hE : EV D cI cZ cR s)
    (hP : va_P D vwCl ws H) (hD : va_D A ws) (hS : va_S A H0 H locs) (hA : ∀ q : Nat, H0.size ≤ q → A q) (is : List Nat) (h1 : is.map (fun i => ws[i]?) = w.map some) (hnd : va_nd is = true) (as : List Nat) (ha1 : w.map (fun q => q.1) = as) (ha2 : w'.map (fun q => q.1) = as)
    (q0 ci : Nat) {T : u_T} {N : Nat} {fs : List Value} (he : ws[q0]? = some (b, .inr (ci, fs))) (hc : vwCl[ci]? = some (C, T, N))
    (hn : As.length = n) (hsize : ls.size = nL) (hst : st0 = As.reverse ++ .ref b :: rest) (hW : (rest.map fun v => v.category).sum ≤ 8) (hdg : decode cc pc = .ok (.invokevirtual index, 3)) (hcs : cells ≤ R.cells ∧ slots ≤ R.slots)
    (kk : ∀ (H1 : Heap) (locs1 : List Loc), va_P D vwCl (rp ws is w') H1 → va_D A (rp ws is w') → va_S A H0 H1 locs1 → W p l e R s m args below meth c H1 locs1 cells slots Q (F0 m (pc + 3) ls rest)) : W p l e R s m args below meth c H locs cells slots Q (F0 m pc ls st0) :=
  cl_v (va_runVN S (hM H.size) cw (pre_v hE hP hD is h1 hnd q0 ci he hc) rfl hn hsize hst (lv_room hW) hdg hcs) hP hD hS hA is h1 (ha2.trans ha1.symm) kk
theorem cl_iS {r : Int32} (S : CallFix p m c cc nL s args Ts own) (hM : Ci l y wsm rm D cI cZ cR As [] r []) (cw : CallB R s args own index y bytes maxL ret wsm rm 0 0 n ∧ (Cond.static y).before args s = true) (hE : EV D cI cZ cR s)
    (hP : va_P D vwCl ws H) (hD : va_D A ws) (hS : va_S A H0 H locs) (hA : ∀ q : Nat, H0.size ≤ q → A q)
    (hn : As.length = n) (hsize : ls.size = nL) (hst : st0 = As.reverse ++ rest) (hW : (rest.map fun v => v.category).sum ≤ 8) (hdg : decode cc pc = .ok (.invokestatic index, 3)) (hcs : cells ≤ R.cells ∧ slots ≤ R.slots)
    (kk : ∀ (H1 : Heap) (locs1 : List Loc), va_P D vwCl ws H1 → va_S A H0 H1 locs1 → W p l e R s m args below meth c H1 locs1 cells slots Q (F0 m (pc + 3) ls (.int r :: rest))) : W p l e R s m args below meth c H locs cells slots Q (F0 m pc ls st0) :=
  cl_i (va_runS S (hM H.size) cw (pre_s hE hP hD [] rfl rfl As) rfl hn hsize hst (lv_room hW) hdg hcs) hP hD hS hA [] rfl rfl (fun H1 locs1 a _ d => kk H1 locs1 (by rw [rp_nil] at a; exact a) d)
theorem cl_iSN {r : Int32} (S : CallFix p m c cc nL s args Ts own) (hM : Ci l y wsm rm D cI cZ cR As [] r []) (cw : va_CN R s args own index y host bytes maxL ret wsm rm 0 0 n ∧ (Cond.static y).before args s = true ∧ True) (hE : EV D cI cZ cR s)
    (hP : va_P D vwCl ws H) (hD : va_D A ws) (hS : va_S A H0 H locs) (hA : ∀ q : Nat, H0.size ≤ q → A q)
    (hn : As.length = n) (hsize : ls.size = nL) (hst : st0 = As.reverse ++ rest) (hW : (rest.map fun v => v.category).sum ≤ 8) (hdg : decode cc pc = .ok (.invokestatic index, 3)) (hcs : cells ≤ R.cells ∧ slots ≤ R.slots)
    (kk : ∀ (H1 : Heap) (locs1 : List Loc), va_P D vwCl ws H1 → va_S A H0 H1 locs1 → W p l e R s m args below meth c H1 locs1 cells slots Q (F0 m (pc + 3) ls (.int r :: rest))) : W p l e R s m args below meth c H locs cells slots Q (F0 m pc ls st0) :=
  cl_i (va_runSN S (hM H.size) cw (pre_s hE hP hD [] rfl rfl As) rfl hn hsize hst (lv_room hW) hdg hcs) hP hD hS hA [] rfl rfl (fun H1 locs1 a _ d => kk H1 locs1 (by rw [rp_nil] at a; exact a) d)
end CALL
