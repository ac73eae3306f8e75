/-! constructors: the contract with cells made -/
def st_QN (D : va_G) (w1 : (Nat → Nat) → va_W) (A : Nat → Prop) : Array Value → State → Outcome → State → Prop := fun _ st oc t => oc = .returned none ∧ va_F A st t ∧ ∃ x : Nat → Nat, va_P D vwCl (w1 x) t.heap ∧ va_D A (w1 x)
def stn (l : Launch) (y : MethodName) (ws : List Cond) (rm : Room) (E : (Nat → Prop) → State → Prop) (D : va_G) (tc : Nat → ClassId) (av : List Value) (w0 : va_W) (w1 : (Nat → Nat) → va_W) (mc ms : Nat) : Prop :=
  ∀ sz : Nat, Met l y ws rm (st_Pc E D tc sz av w0) (st_QN D w1 (va_A w0 sz)) mc ms (va_A w0 sz)
theorem stn_enter {l : Launch} {y : MethodName} {ws ws' : List Cond} {rm : Room} {E : (Nat → Prop) → State → Prop} {D : va_G} {tc : Nat → ClassId} {av : List Value} {w0 : va_W} {w1 : (Nat → Nat) → va_W} {mc ms : Nat} {cc : ByteArray} {maxL : Nat}
    (hy : plainName y.cls = true) (hyn : y.name = "<init>") (hw : ws = Cond.code y cc maxL none :: ws') (hlen : (lg_sl av).length ≤ maxL)
    (body : ∀ (p : Program) (e : Env) (s : State) (m : MethodId) (below : List Frame) (meth : Method) (c : Code) (A : Nat → Prop) (ls : Array Slot), p.tables.exec = Jvm.exec → c.code = cc → meth.sig.returnType = none → c.maxLocals = maxL → (∀ w ∈ ws, w.before av.toArray s = true) → s.vm.findClass y.cls = some m.cls → meth.locks = false → meth.name = "<init>" → va_K D vwCl (st_T tc) s → st_N s → E A s → (∀ q : Nat, s.heap.size ≤ q → A q) → va_P D vwCl w0 s.heap → va_D A w0 → va_S A s.heap s.heap [] → lv_has ls maxL (lv_args 0 av) →
      W p l e rm s m av.toArray below meth c s.heap [] 0 0 (MQ below (st_QN D w1 A) av.toArray s mc ms A) (F0 m 0 ls [])) : stn l y ws rm E D tc av w0 w1 mc ms := by
  intro sz
  refine Met.ofW (cc := cc) (maxL := maxL) (ret := none) hy hw ?_
  intro p e s m args below meth c s₁ B hml hv
  obtain ⟨rfl, hsz, hP, hK, hD0, hN, hE⟩ := hv
  subst hsz
  have hl := lv_entry av (n := maxL) hlen
  rw [lg_entry_eq]
  exact body p e s m below meth c (va_A w0 s.heap.size) _ B.exec B.bytes B.returns hml (atoms_spec (ws := ws) B.pre) (findClass_of_methodNamed B.named) B.notSynchronized ((name_of_methodNamed B.named B.method).1.trans hyn) hK hN hE (fun q h => Or.inr h) hP hD0.self va_S.rf hl
theorem st_tc {D : va_G} {tc : Nat → ClassId} {s : State} {cA : ClassId} {ty : FieldType} (k : Nat) (hk : (st_T tc)[k]? = some (tc k, ty)) (h : va_K D vwCl (st_T tc ++ [(cA, ty)]) s) : cA = tc k := by
  have hk' : (st_T tc ++ [(cA, ty)])[k]? = some (tc k, ty) := by
    have hl : k < (st_T tc).length := (List.getElem?_eq_some_iff.mp hk).1
    rw [List.getElem?_append_left hl]; exact hk
  have h1 := (h.2 k _ hk').2
  have h2 := (h.2 4 (cA, ty) rfl).2
  cases ty with
  | object C =>
    obtain ⟨-, -, -, -, -, g1⟩ := h1
    obtain ⟨-, -, -, -, -, g2⟩ := h2
    exact Option.some.inj (g2.symm.trans g1)
  | _ =>
    exact Option.some.inj ((show s.vm.findClass _ = some cA from h2).symm.trans (show s.vm.findClass _ = some (tc k) from h1))
section STN
variable {p : Program} {l : Launch} {e : Env} {R : Room} {s : State} {m : MethodId} {args : Array Value} {below : List Frame} {meth : Method} {c : Code} {H : Heap} {locs : List Loc} {cells slots : Nat} {Q : State → Prop}
variable {pc : Nat} {ls : Array Slot} {rest st0 As : List Value} {a : Array Value} {A : Nat → Prop} {D : va_G} {tc : Nat → ClassId} {E : (Nat → Prop) → State → Prop} {wsC w0 wr : va_W} {w1 : (Nat → Nat) → va_W} {mc ms : Nat}
variable {y : MethodName} {bytes cc : ByteArray} {maxL nL n index : Nat} {ws : List Cond} {rm : Room} {Ts : List Cond} {own host : String} {b : Addr}
theorem stn_call (hr : va_Run p l e R s m args below meth c H locs cells slots mc ms (F0 m pc ls st0) rest (st_QN D w1 (va_A w0 H.size) a) (va_A w0 H.size))
    (hP : va_P D vwCl wsC H) (hD : va_D A wsC) (hS : va_S A s.heap H locs) (hA : ∀ q : Nat, s.heap.size ≤ q → A q) (isC isR : List Nat) (hC : isC.map (fun i => wsC[i]?) = w0.map some) (hR : isR.map (fun i => wsC[i]?) = wr.map some) (hn : va_nd isR = true) (hdis : ∀ i ∈ isR, i ∉ isC)
    (kk : ∀ (x : Nat → Nat) (H1 : Heap) (locs1 : List Loc), va_P D vwCl (wr ++ w1 x) H1 → va_D A (wr ++ w1 x) → va_S A s.heap H1 locs1 → W p l e R s m args below meth c H1 locs1 (cells + mc) (slots + ms) Q (F0 m (pc + 3) ls rest)) : W p l e R s m args below meth c H locs cells slots Q (F0 m pc ls st0) := by
  intro T hT X
  obtain ⟨v, st₀, t, T', L, h0, X', hL, e1, e2, ⟨hv, ⟨hz, hk⟩, x, hP1, hD1⟩, stp⟩ := hr T hT X
  cases hv
  rw [h0] at hz hk
  have hF := va_free (wc := w0) hD hS hA isC hC
  rw [← e1] at hz hk hP1
  obtain ⟨j1, j2⟩ := va_join hP hD isC isR hC hR hn hdis hk hF hP1 hD1
  obtain ⟨t2, a1, b1⟩ := kk x T'.heap (locs ++ L) j1 j2
    ⟨Nat.le_trans hS.1 hz, fun q h1 h2 => by rw [hk q (Nat.lt_of_lt_of_le h1 hS.1) (fun z => h2 (hF q z))]; exact hS.2.1 q h1 h2, fun q hq => by
      rcases List.mem_append.mp hq with h | h
      · exact hS.2.2 q h
      · exact hF _ (hL q h)⟩ T' rfl X'
  exact ⟨t2, stp t2 a1, b1⟩
theorem stn_callI (S : CallFix p m c cc nL s args Ts own) (hM : stn l y ws rm E D tc (.ref b :: As) w0 w1 mc ms) (cw : CallB R s args own index y bytes maxL none ws rm mc ms n ∧ y.name = "<init>" ∧ (Cond.instanceMethod y).before args s = true)
    (hEok : st_Eok E) (hE : E A s) (hK : va_K D vwCl (st_T tc) s) (hN : st_N s) (hP : va_P D vwCl wsC H) (hD : va_D A wsC) (hS : va_S A s.heap H locs) (hA : ∀ q : Nat, s.heap.size ≤ q → A q) (isC isR : List Nat) (hC : isC.map (fun i => wsC[i]?) = w0.map some) (hcn : va_nd isC = true) (hR : isR.map (fun i => wsC[i]?) = wr.map some) (hnr : va_nd isR = true) (hdis : ∀ i ∈ isR, i ∉ isC)
    (hn : As.length = n) (hsz : ls.size = nL) (hst : st0 = As.reverse ++ .ref b :: rest) (hW : (rest.map fun v => v.category).sum ≤ 8) (hdg : decode cc pc = .ok (.invokespecial index, 3)) (hf : cells + mc ≤ R.cells ∧ slots + ms ≤ R.slots)
    (kk : ∀ (x : Nat → Nat) (H1 : Heap) (locs1 : List Loc), va_P D vwCl (wr ++ w1 x) H1 → va_D A (wr ++ w1 x) → va_S A s.heap H1 locs1 → W p l e R s m args below meth c H1 locs1 (cells + mc) (slots + ms) Q (F0 m (pc + 3) ls rest)) : W p l e R s m args below meth c H locs cells slots Q (F0 m pc ls st0) :=
  stn_call (va_runI (As := As) (rest := rest) S (hM H.size) cw (st_pre hEok hE hK hN hP hD hS hA hC hcn) rfl hn hsz hst (lv_room hW) hdg hf) hP hD hS hA isC isR hC hR hnr hdis kk
theorem stn_callIN (S : CallFix p m c cc nL s args Ts own) (hM : stn l y ws rm E D tc (.ref b :: As) w0 w1 mc ms) (cw : va_CN R s args own index y host bytes maxL none ws rm mc ms n ∧ y.name = "<init>" ∧ (Cond.instanceMethod y).before args s = true)
    (hEok : st_Eok E) (hE : E A s) (hK : va_K D vwCl (st_T tc) s) (hN : st_N s) (hP : va_P D vwCl wsC H) (hD : va_D A wsC) (hS : va_S A s.heap H locs) (hA : ∀ q : Nat, s.heap.size ≤ q → A q) (isC isR : List Nat) (hC : isC.map (fun i => wsC[i]?) = w0.map some) (hcn : va_nd isC = true) (hR : isR.map (fun i => wsC[i]?) = wr.map some) (hnr : va_nd isR = true) (hdis : ∀ i ∈ isR, i ∉ isC)
    (hn : As.length = n) (hsz : ls.size = nL) (hst : st0 = As.reverse ++ .ref b :: rest) (hW : (rest.map fun v => v.category).sum ≤ 8) (hdg : decode cc pc = .ok (.invokespecial index, 3)) (hf : cells + mc ≤ R.cells ∧ slots + ms ≤ R.slots)
    (kk : ∀ (x : Nat → Nat) (H1 : Heap) (locs1 : List Loc), va_P D vwCl (wr ++ w1 x) H1 → va_D A (wr ++ w1 x) → va_S A s.heap H1 locs1 → W p l e R s m args below meth c H1 locs1 (cells + mc) (slots + ms) Q (F0 m (pc + 3) ls rest)) : W p l e R s m args below meth c H locs cells slots Q (F0 m pc ls st0) :=
  stn_call (va_runIN (As := As) (rest := rest) S (hM H.size) cw (st_pre hEok hE hK hN hP hD hS hA hC hcn) rfl hn hsz hst (lv_room hW) hdg hf) hP hD hS hA isC isR hC hR hnr hdis kk
theorem stn_ret (hx : p.tables.exec = Jvm.exec) (hb : c.code = cc) (hr : meth.sig.returnType = none) (hlocks : meth.locks = false) (x : Nat → Nat) (hP : va_P D vwCl (w1 x) H) (hD : va_D A (w1 x)) (hS : va_S A s.heap H locs) (hdg : decode cc pc = .ok (.return_, 1)) : W p l e R s m args below meth c H locs cells slots (MQ below (st_QN D w1 A) args s cells slots A) (F0 m pc ls []) :=
  W.vret hx hb hr (fun t ht hW => ⟨rfl, hS.F ht, x, by rw [ht]; exact hP, hD⟩) hS.2.2 hdg hlocks
theorem st_newI (hx : p.tables.exec = Jvm.exec) (hb : c.code = cc) (harr : (Cond.arrayClass .int).before args s = true) (hK : va_K D vwCl (st_T tc) s) (hP : va_P D vwCl wsC H) (hD : va_D A wsC) (hS : va_S A s.heap H locs) (hA : ∀ q : Nat, s.heap.size ≤ q → A q)
    {n : Int32} (N : Nat) (hn : ¬ n < 0) (hN : n.toNatClampNeg = N) (hbytes : N * 4 ≤ 536870912) (hcells : cells + 1 ≤ R.cells) (hslots : slots + N ≤ R.slots) (hdg : decode cc pc = .ok (.newarray .int, 2))
    (kk : ∀ (q : Nat) (H1 : Heap), va_P D vwCl (wsC ++ [(q, .inl (tc 0, N, .inl (fun _ => 0)))]) H1 → va_D A (wsC ++ [(q, .inl (tc 0, N, .inl (fun _ => 0)))]) → va_S A s.heap H1 locs → W p l e R s m args below meth c H1 locs (cells + 1) (slots + N) Q (F0 m (pc + 2) ls (.ref q :: rest))) : W p l e R s m args below meth c H locs cells slots Q (F0 m pc ls (.int n :: rest)) := by
  refine va_newa (atype := .int) (ty := .int) (a0 := (N, .inl (fun _ => 0))) hx hb harr rfl hK hP hD hS hA (fun cA => rfl) hn hN hbytes hcells hslots hdg (fun q cA H1 k1 k2 k3 k4 => ?_)
  obtain rfl := st_tc 0 rfl k1
  exact kk q H1 k2 k3 k4
theorem st_newL (hx : p.tables.exec = Jvm.exec) (hb : c.code = cc) (harr : (Cond.arrayClass .long).before args s = true) (hK : va_K D vwCl (st_T tc) s) (hP : va_P D vwCl wsC H) (hD : va_D A wsC) (hS : va_S A s.heap H locs) (hA : ∀ q : Nat, s.heap.size ≤ q → A q)
    {n : Int32} (N : Nat) (hn : ¬ n < 0) (hN : n.toNatClampNeg = N) (hbytes : N * 8 ≤ 536870912) (hcells : cells + 1 ≤ R.cells) (hslots : slots + N ≤ R.slots) (hdg : decode cc pc = .ok (.newarray .long, 2))
    (kk : ∀ (q : Nat) (H1 : Heap), va_P D vwCl (wsC ++ [(q, .inl (tc 1, N, .inr (.inl (fun _ => 0))))]) H1 → va_D A (wsC ++ [(q, .inl (tc 1, N, .inr (.inl (fun _ => 0))))]) → va_S A s.heap H1 locs → W p l e R s m args below meth c H1 locs (cells + 1) (slots + N) Q (F0 m (pc + 2) ls (.ref q :: rest))) : W p l e R s m args below meth c H locs cells slots Q (F0 m pc ls (.int n :: rest)) := by
  refine va_newa (atype := .long) (ty := .long) (a0 := (N, .inr (.inl (fun _ => 0)))) hx hb harr rfl hK hP hD hS hA (fun cA => rfl) hn hN hbytes hcells hslots hdg (fun q cA H1 k1 k2 k3 k4 => ?_)
  obtain rfl := st_tc 1 rfl k1
  exact kk q H1 k2 k3 k4
theorem st_newQ {C : String} (k : Nat) (hk : (st_T tc)[k]? = some (tc k, .object C)) (hx : p.tables.exec = Jvm.exec) (hb : c.code = cc) (hown : s.vm.findClass own = some m.cls) (hclink : (Cond.classLink own index C).before args s = true) (hover : va_AO C s) (hK : va_K D vwCl (st_T tc) s) (hP : va_P D vwCl wsC H) (hD : va_D A wsC) (hS : va_S A s.heap H locs) (hA : ∀ q : Nat, s.heap.size ≤ q → A q)
    {n : Int32} (N : Nat) (hn : ¬ n < 0) (hN : n.toNatClampNeg = N) (hbytes : N * 4 ≤ 536870912) (hcells : cells + 1 ≤ R.cells) (hslots : slots + N ≤ R.slots) (hdg : decode cc pc = .ok (.anewarray index, 3))
    (kk : ∀ (q : Nat) (H1 : Heap), va_P D vwCl (wsC ++ [(q, .inl (tc k, N, .inr (.inr (.inr (.inr (fun _ => none))))))]) H1 → va_D A (wsC ++ [(q, .inl (tc k, N, .inr (.inr (.inr (.inr (fun _ => none))))))]) → va_S A s.heap H1 locs → W p l e R s m args below meth c H1 locs (cells + 1) (slots + N) Q (F0 m (pc + 3) ls (.ref q :: rest))) : W p l e R s m args below meth c H locs cells slots Q (F0 m pc ls (.int n :: rest)) := by
  refine va_newq (C := C) hx hb hown hclink hover hK hP hD hS hA hn hN hbytes hcells hslots hdg (fun q cA H1 k1 k2 k3 k4 => ?_)
  obtain rfl := st_tc k hk k1
  exact kk q H1 k2 k3 k4
end STN
/-- an array of references is what it holds -/
theorem st_refsP {D : va_G} {cl : List vw_C} {ws : va_W} {H : Heap} {a n : Nat} {cA : ClassId} {f f' : Nat → Option Nat} (k : Nat) (hP : va_P D cl ws H) (he : ws[k]? = some (a, .inl (cA, n, .inr (.inr (.inr (.inr f)))))) (h : ∀ j, j < n → f j = f' j) : va_P D cl (ws.set k (a, .inl (cA, n, .inr (.inr (.inr (.inr f')))))) H := by
  intro i q hq
  rw [List.getElem?_set] at hq
  by_cases hi : k = i
  · subst hi
    have hl : k < ws.length := (List.getElem?_eq_some_iff.mp he).1
    rw [if_pos rfl, if_pos hl] at hq
    cases hq
    have h1 := hP k _ he
    show H[a]? = some (vp_cell _ _)
    rw [show H[a]? = some (vp_cell cA (n, .inr (.inr (.inr (.inr f))))) from h1, vp_cell_q, vp_cell_q]
    congr 1
    unfold arrV
    congr 2
    funext j
    show va_rf (f j.val) = va_rf (f' j.val)
    rw [h j.val j.isLt]
  · rw [if_neg hi] at hq
    exact hP i q hq
/-- what the constructors know of constants: arrays of records, the ladder's rooms -/
def ld_rm (j : Nat) : Int32 := ([8, 40, 112, 240, 440] : List Int32).getD j 0
def ld_E (t1 : Nat) : (Nat → Prop) → State → Prop := fun A U => va_AO "ChanceBounds$Saying" U ∧ va_AO "ChanceBounds$Corners" U ∧ va_Z "ChanceBounds$Ladder" "ROOM_OF_STEP" "[I" (.ref t1) A U U.heap ∧ va_T .int t1 5 (fun j => .int (ld_rm j)) A U U.heap
theorem ld_ok (t1 : Nat) : st_Eok (ld_E t1) := by
  refine ⟨?_, ?_⟩
  · intro A U g mk a h
    obtain ⟨h1, h2, h3, h4⟩ := h
    have al : U.vm.Alike (U.calling g mk a).vm := Vm.Alike.refl U.vm
    exact ⟨va_AO.moved al h1, va_AO.moved al h2, va_Z.moved al h3, va_T.moved al h4⟩
  · intro A A' s U H locs h hS hA hU hW
    obtain ⟨h1, h2, h3, h4⟩ := h
    subst hU
    have kk : ∀ a : Nat, a < s.heap.size → ¬ A a → U.heap[a]? = s.heap[a]? := fun a q1 q2 => hS.2.1 a q1 q2
    exact ⟨va_AO.moved hW.alike h1, va_AO.moved hW.alike h2, va_Z.narrow (va_Z.kept (va_Z.moved hW.alike h3) kk) hA, va_T.narrow (va_T.kept (va_T.moved hW.alike h4) kk) hA⟩
