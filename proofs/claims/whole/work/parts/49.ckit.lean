/-! constructors: the world w, what is new comes with the world behind -/
def Cn (l : Launch) (y : MethodName) (wsm : List Cond) (rm : Room) (D : va_G) (cI cZ cR : ClassId) (av : List Value) (w : va_W) (mc ms : Nat) (N : va_W → Prop) : Prop := ∀ sz : Nat, Met l y wsm rm (va_Pc av (cP D cI cZ cR w sz)) (va_Qv N (fun w' t => cB D (va_A w sz) w' t) (va_A w sz)) mc ms (va_A w sz)
section ENTN
variable {l : Launch} {y : MethodName} {wsm ws' : List Cond} {rm : Room} {D : va_G} {cI cZ cR : ClassId} {av : List Value} {w : va_W} {cc : ByteArray} {maxL mc ms : Nat} {N : va_W → Prop}
theorem ent_n (hy : plainName y.cls = true) (hnm : y.name = "<init>") (hw : wsm = Cond.code y cc maxL none :: ws') (hlen : (lg_sl av).length ≤ maxL)
    (body : ∀ (p : Program) (e : Env) (s : State) (m : MethodId) (below : List Frame) (meth : Method) (c : Code) (A : Nat → Prop) (Q : State → Prop),
      p.tables.exec = Jvm.exec → c.code = cc → c.maxLocals = maxL → s.vm.findClass y.cls = some m.cls → meth.name = "<init>" → (∀ x ∈ wsm, x.before av.toArray s = true) → EV D cI cZ cR s → (∀ q : Nat, s.heap.size ≤ q → A q) → va_P D vwCl w s.heap → va_D A w → va_S A s.heap s.heap [] →
      (∀ (w' : va_W) (H : Heap) (locs : List Loc) (pc : Nat) (ls : Array Slot), decode cc pc = .ok (.return_, 1) → N w' → va_P D vwCl w' H → va_D A w' → va_S A s.heap H locs → W p l e rm s m av.toArray below meth c H locs mc ms Q (F0 m pc ls [])) →
      ∀ ls : Array Slot, lv_has ls maxL (lv_args 0 av) → W p l e rm s m av.toArray below meth c s.heap [] 0 0 Q (F0 m 0 ls [])) : Cn l y wsm rm D cI cZ cR av w mc ms N := by
  intro sz
  refine Met.ofW (cc := cc) (maxL := maxL) (ret := none) hy hw ?_
  intro p e s m args below meth c s₁ B hml hv
  obtain ⟨rfl, hsz, hP, hE, hD0⟩ := hv
  subst hsz
  have hlocks := B.notSynchronized
  have hin : meth.name = "<init>" := (name_of_methodNamed B.named B.method).1.trans hnm
  rw [lg_entry_eq]
  refine body p e s m below meth c (va_A w s.heap.size) _ B.exec B.bytes hml (findClass_of_methodNamed B.named) hin (atoms_spec (ws := wsm) B.pre) hE (fun q h => Or.inr h) hP hD0.self va_S.rf ?_ _ (lv_entry av (n := maxL) hlen)
  intro w' H locs pc ls hd hN hP1 hD1 hS
  exact W.vret B.exec B.bytes B.returns (fun t ht hW => ⟨⟨w', rfl, hN, by rw [← ht] at hP1; exact hP1, hD1⟩, hS.F ht⟩) hS.2.2 hd
end ENTN
section CALLN
variable {p : Program} {l : Launch} {e : Env} {R : Room} {s : State} {m : MethodId} {args : Array Value} {below : List Frame} {meth : Method} {c : Code} {H : Heap} {locs : List Loc} {cells slots : Nat} {Q : State → Prop}
variable {y : MethodName} {bytes cc : ByteArray} {maxL nL n index pc mc ms : Nat} {wsm Ts : List Cond} {rm : Room} {own C host : String} {b : Addr} {As rest st0 : List Value} {ls : Array Slot} {D : va_G} {cI cZ cR : ClassId} {A : Nat → Prop} {ws w wr : va_W} {H0 : Heap} {N : va_W → Prop}
theorem cl_n {a : Array Value} (hr : va_Run p l e R s m args below meth c H locs cells slots mc ms (F0 m pc ls st0) rest (va_Qv N (fun w' t => cB D (va_A w H.size) w' t) (va_A w H.size) a) (va_A w H.size))
    (hP : va_P D vwCl ws H) (hD : va_D A ws) (hS : va_S A H0 H locs) (hA : ∀ q : Nat, H0.size ≤ q → A q) (is ir : List Nat) (h1 : is.map (fun i => ws[i]?) = w.map some) (h2 : ir.map (fun i => ws[i]?) = wr.map some) (hnd : va_nd ir = true) (hdis : ∀ i ∈ ir, i ∉ is)
    (kk : ∀ (w' : va_W) (H1 : Heap) (locs1 : List Loc), N w' → va_P D vwCl (wr ++ w') H1 → va_D A (wr ++ w') → va_S A H0 H1 locs1 → W p l e R s m args below meth c H1 locs1 (cells + mc) (slots + ms) Q (F0 m (pc + 3) ls rest)) : W p l e R s m args below meth c H locs cells slots Q (F0 m pc ls st0) := by
  have hF := va_free (wc := w) hD hS hA is h1
  refine va_callv hr hS (fun q _ h => hF q h) hF (fun w' t H1 locs1 ht _ hN hB _ hk hS1 => ?_)
  obtain ⟨hP1, hD1⟩ := hB
  rw [ht] at hP1
  obtain ⟨hP2, hD2⟩ := va_join hP hD is ir h1 h2 hnd hdis hk hF hP1 hD1
  exact kk w' H1 locs1 hN hP2 hD2 hS1
theorem cl_nN (S : CallFix p m c cc nL s args Ts own) (hM : Cn l y wsm rm D cI cZ cR (.ref b :: As) w mc ms N) (cw : va_CN R s args own index y host bytes maxL none wsm rm mc ms n ∧ y.name = "<init>" ∧ (Cond.instanceMethod y).before args s = true) (hE : EV D cI cZ cR s)
    (hP : va_P D vwCl ws H) (hD : va_D A ws) (hS : va_S A H0 H locs) (hA : ∀ q : Nat, H0.size ≤ q → A q) (is ir : List Nat) (h1 : is.map (fun i => ws[i]?) = w.map some) (h2 : ir.map (fun i => ws[i]?) = wr.map some) (hndc : va_nd is = true) (hnd : va_nd ir = true) (hdis : ∀ i ∈ ir, i ∉ is)
    (hn : As.length = n) (hsize : ls.size = nL) (hst : st0 = As.reverse ++ .ref b :: rest) (hW : (rest.map fun v => v.category).sum ≤ 8) (hdg : decode cc pc = .ok (.invokespecial index, 3)) (hcs : cells + mc ≤ R.cells ∧ slots + ms ≤ R.slots)
    (kk : ∀ (w' : va_W) (H1 : Heap) (locs1 : List Loc), N w' → va_P D vwCl (wr ++ w') H1 → va_D A (wr ++ w') → va_S A H0 H1 locs1 → W p l e R s m args below meth c H1 locs1 (cells + mc) (slots + ms) Q (F0 m (pc + 3) ls rest)) : W p l e R s m args below meth c H locs cells slots Q (F0 m pc ls st0) :=
  cl_n (va_runIN S (hM H.size) cw (pre_s hE hP hD is h1 hndc (.ref b :: As)) rfl hn hsize hst (lv_room hW) hdg hcs) hP hD hS hA is ir h1 h2 hnd hdis kk
theorem cl_nI (S : CallFix p m c cc nL s args Ts own) (hM : Cn l y wsm rm D cI cZ cR (.ref b :: As) w mc ms N) (cw : CallB R s args own index y bytes maxL none wsm rm mc ms n ∧ y.name = "<init>" ∧ (Cond.instanceMethod y).before args s = true) (hE : EV D cI cZ cR s)
    (hP : va_P D vwCl ws H) (hD : va_D A ws) (hS : va_S A H0 H locs) (hA : ∀ q : Nat, H0.size ≤ q → A q) (is ir : List Nat) (h1 : is.map (fun i => ws[i]?) = w.map some) (h2 : ir.map (fun i => ws[i]?) = wr.map some) (hndc : va_nd is = true) (hnd : va_nd ir = true) (hdis : ∀ i ∈ ir, i ∉ is)
    (hn : As.length = n) (hsize : ls.size = nL) (hst : st0 = As.reverse ++ .ref b :: rest) (hW : (rest.map fun v => v.category).sum ≤ 8) (hdg : decode cc pc = .ok (.invokespecial index, 3)) (hcs : cells + mc ≤ R.cells ∧ slots + ms ≤ R.slots)
    (kk : ∀ (w' : va_W) (H1 : Heap) (locs1 : List Loc), N w' → va_P D vwCl (wr ++ w') H1 → va_D A (wr ++ w') → va_S A H0 H1 locs1 → W p l e R s m args below meth c H1 locs1 (cells + mc) (slots + ms) Q (F0 m (pc + 3) ls rest)) : W p l e R s m args below meth c H locs cells slots Q (F0 m pc ls st0) :=
  cl_n (va_runI S (hM H.size) cw (pre_s hE hP hD is h1 hndc (.ref b :: As)) rfl hn hsize hst (lv_room hW) hdg hcs) hP hD hS hA is ir h1 h2 hnd hdis kk
theorem new_i (hx : p.tables.exec = Jvm.exec) (hb : c.code = cc) (harr : (Cond.arrayClass .int).before args s = true) (hE : EV D cI cZ cR s) (hP : va_P D vwCl ws H) (hD : va_D A ws) (hS : va_S A H0 H locs) (hA : ∀ q : Nat, H0.size ≤ q → A q)
    {v : Int32} {k : Nat} (hn : ¬ v < 0) (hN : v.toNatClampNeg = k) (hby : k * 4 ≤ 536870912) (hcells : cells + 1 ≤ R.cells) (hslots : slots + k ≤ R.slots) (hdg : decode cc pc = .ok (.newarray .int, 2))
    (kk : ∀ (q : Nat) (H1 : Heap), va_P D vwCl (ws ++ [(q, .inl (cI, k, .inl (fun _ => 0)))]) H1 → va_D A (ws ++ [(q, .inl (cI, k, .inl (fun _ => 0)))]) → va_S A H0 H1 locs → W p l e R s m args below meth c H1 locs (cells + 1) (slots + k) Q (F0 m (pc + 2) ls (.ref q :: rest))) : W p l e R s m args below meth c H locs cells slots Q (F0 m pc ls (.int v :: rest)) := by
  refine va_newa (atype := .int) (ty := .int) (a0 := (k, .inl (fun _ => 0))) hx hb harr rfl hE.1 hP hD hS hA (fun cA => by rw [vp_cell_i]; rfl) hn hN hby hcells hslots hdg (fun q cA H1 hK hP1 hD1 hS1 => ?_)
  have e1 := va_nm_int (hK.2 3 (cA, .int) rfl).2
  have e2 := va_nm_int (hE.1.2 0 (cI, .int) rfl).2
  have e : cA = cI := Option.some.inj (e1.symm.trans e2)
  subst e
  exact kk q H1 hP1 hD1 hS1
theorem new_z (hx : p.tables.exec = Jvm.exec) (hb : c.code = cc) (harr : (Cond.arrayClass .boolean).before args s = true) (hE : EV D cI cZ cR s) (hP : va_P D vwCl ws H) (hD : va_D A ws) (hS : va_S A H0 H locs) (hA : ∀ q : Nat, H0.size ≤ q → A q)
    {v : Int32} {k : Nat} (hn : ¬ v < 0) (hN : v.toNatClampNeg = k) (hby : k * 1 ≤ 536870912) (hcells : cells + 1 ≤ R.cells) (hslots : slots + k ≤ R.slots) (hdg : decode cc pc = .ok (.newarray .boolean, 2))
    (kk : ∀ (q : Nat) (H1 : Heap), va_P D vwCl (ws ++ [(q, .inl (cZ, k, .inl (fun _ => 0)))]) H1 → va_D A (ws ++ [(q, .inl (cZ, k, .inl (fun _ => 0)))]) → va_S A H0 H1 locs → W p l e R s m args below meth c H1 locs (cells + 1) (slots + k) Q (F0 m (pc + 2) ls (.ref q :: rest))) : W p l e R s m args below meth c H locs cells slots Q (F0 m pc ls (.int v :: rest)) := by
  refine va_newa (atype := .boolean) (ty := .boolean) (a0 := (k, .inl (fun _ => 0))) hx hb harr rfl hE.1 hP hD hS hA (fun cA => by rw [vp_cell_i]; rfl) hn hN hby hcells hslots hdg (fun q cA H1 hK hP1 hD1 hS1 => ?_)
  have e1 := va_nm_boolean (hK.2 3 (cA, .boolean) rfl).2
  have e2 := va_nm_boolean (hE.1.2 1 (cZ, .boolean) rfl).2
  have e : cA = cZ := Option.some.inj (e1.symm.trans e2)
  subst e
  exact kk q H1 hP1 hD1 hS1
theorem new_r (hx : p.tables.exec = Jvm.exec) (hb : c.code = cc) (hown : s.vm.findClass own = some m.cls) (hcl : (Cond.classLink own index RX4).before args s = true) (hE : EV D cI cZ cR s) (hP : va_P D vwCl ws H) (hD : va_D A ws) (hS : va_S A H0 H locs) (hA : ∀ q : Nat, H0.size ≤ q → A q)
    {v : Int32} {k : Nat} (hn : ¬ v < 0) (hN : v.toNatClampNeg = k) (hby : k * 4 ≤ 536870912) (hcells : cells + 1 ≤ R.cells) (hslots : slots + k ≤ R.slots) (hdg : decode cc pc = .ok (.anewarray index, 3))
    (kk : ∀ (q : Nat) (H1 : Heap), va_P D vwCl (ws ++ [(q, .inl (cR, k, .inr (.inr (.inr (.inr (fun _ => none))))))]) H1 → va_D A (ws ++ [(q, .inl (cR, k, .inr (.inr (.inr (.inr (fun _ => none))))))]) → va_S A H0 H1 locs → W p l e R s m args below meth c H1 locs (cells + 1) (slots + k) Q (F0 m (pc + 3) ls (.ref q :: rest))) : W p l e R s m args below meth c H locs cells slots Q (F0 m pc ls (.int v :: rest)) := by
  refine va_newq hx hb hown hcl hE.2.2.2 hE.1 hP hD hS hA hn hN hby hcells hslots hdg (fun q cA H1 hK hP1 hD1 hS1 => ?_)
  have e1 := va_nmO (hK.2 3 (cA, .object RX4) rfl).2 rfl
  have e2 := va_nmO (hE.1.2 2 (cR, .object RX4) rfl).2 rfl
  have e : cA = cR := Option.some.inj (e1.symm.trans e2)
  subst e
  exact kk q H1 hP1 hD1 hS1
end CALLN
theorem va_at.arrq {D : va_G} {a k : Nat} {cA : ClassId} {f g : Nat → Option Nat} {H : Heap} (h : ∀ j, j < k → f j = g j) (hf : va_at D vwCl (a, .inl (cA, k, .inr (.inr (.inr (.inr f))))) H) : va_at D vwCl (a, .inl (cA, k, .inr (.inr (.inr (.inr g))))) H := by
  have e : vp_cell cA (k, .inr (.inr (.inr (.inr f)))) = vp_cell cA (k, .inr (.inr (.inr (.inr g)))) := by
    rw [vp_cell_q, vp_cell_q]
    unfold arrV
    congr 1
    apply Array.ext
    · simp
    · intro i h1 h2
      have hi : i < k := by simpa using h1
      simp [h i hi]
  show H[a]? = some (vp_cell cA (k, .inr (.inr (.inr (.inr g)))))
  rw [← e]
  exact hf
theorem va_P.arrq {D : va_G} {p a k : Nat} {cA : ClassId} {f g : Nat → Option Nat} {ws : va_W} {H : Heap} (hP : va_P D vwCl ws H) (hp : ws[p]? = some (a, .inl (cA, k, .inr (.inr (.inr (.inr f)))))) (h : ∀ j, j < k → f j = g j) : va_P D vwCl (ws.set p (a, .inl (cA, k, .inr (.inr (.inr (.inr g)))))) H := by
  intro j q hj
  by_cases e : j = p
  · subst e
    rw [List.getElem?_set_self (List.getElem?_eq_some_iff.mp hp).1] at hj
    cases hj
    exact va_at.arrq h (hP j _ hp)
  · rw [List.getElem?_set_ne (fun z => e z.symm)] at hj
    exact hP j q hj
