def st_nest : List Cond := [.fieldLinkNest RX8 69 "ChanceBounds$Text" "length" "I" "ChanceBounds", .fieldLinkNest RX6 20 "ChanceBounds$Text" "length" "I" "ChanceBounds", .fieldLinkNest RX3 90 "ChanceBounds$Tokens" "start" "I" "ChanceBounds", .fieldLinkNest RX3 37 "ChanceBounds$Tokens" "kind" "I" "ChanceBounds", .fieldLinkNest RX3 87 "ChanceBounds$Tokens" "value" "I" "ChanceBounds", .fieldLinkNest RX7 23 "ChanceBounds$Saying" "x" "I" "ChanceBounds", .fieldLinkNest RX0 79 "ChanceBounds$Saying" "x" "I" "ChanceBounds", .fieldLinkNest RX3 50 "ChanceBounds$Saying" "x" "I" "ChanceBounds", .fieldLinkNest RX8 103 "ChanceBounds$Saying" "x" "I" "ChanceBounds", .fieldLinkNest RX7 29 "ChanceBounds$Saying" "y" "I" "ChanceBounds", .fieldLinkNest RX0 82 "ChanceBounds$Saying" "y" "I" "ChanceBounds", .fieldLinkNest RX3 53 "ChanceBounds$Saying" "y" "I" "ChanceBounds", .fieldLinkNest RX8 106 "ChanceBounds$Saying" "y" "I" "ChanceBounds", .fieldLinkNest RX0 69 "ChanceBounds$Saying" "from" "I" "ChanceBounds", .fieldLinkNest RX3 66 "ChanceBounds$Saying" "from" "I" "ChanceBounds", .fieldLinkNest RX8 109 "ChanceBounds$Saying" "from" "I" "ChanceBounds", .fieldLinkNest RX0 72 "ChanceBounds$Saying" "to" "I" "ChanceBounds", .fieldLinkNest RX3 73 "ChanceBounds$Saying" "to" "I" "ChanceBounds", .fieldLinkNest RX8 112 "ChanceBounds$Saying" "to" "I" "ChanceBounds", .fieldLinkNest RX3 76 "ChanceBounds$Saying" "isOn" "I" "ChanceBounds", .fieldLinkNest RX8 115 "ChanceBounds$Saying" "isOn" "I" "ChanceBounds", .fieldLinkNest RX8 89 "ChanceBounds$Reader" "found" "[LChanceBounds$Saying;" "ChanceBounds", .fieldLinkNest RX8 96 "ChanceBounds$Reader" "complete" "I" "ChanceBounds", .fieldLinkNest RX8 86 "ChanceBounds$Reader" "fault" "I" "ChanceBounds", .fieldLinkNest RX2 50 "ChanceBounds$Corners" "cutBy" "LChanceBounds$Saying;" "ChanceBounds", .fieldLinkNest RX8 199 "ChanceBounds$ToldRow" "thousandths" "[I" "ChanceBounds", .methodLinkNest RX8 9 yX5_init "ChanceBounds", .methodLinkNest RX3 26 yX4_init "ChanceBounds", .methodLinkNest RX8 31 yX4_init "ChanceBounds", .methodLinkNest RX0 17 yX4_init "ChanceBounds", .methodLinkNest RX0 108 yX8_commonDivisor "ChanceBounds", .methodLinkNest RX2 27 yX4_init "ChanceBounds", .methodLinkNest RX8 52 yX1_init "ChanceBounds", .methodLinkNest RX2 32 yX8_has "ChanceBounds", .methodLinkNest RX0 111 yX8_has "ChanceBounds", .methodLinkNest RX1 28 yX8_commonDivisor "ChanceBounds", .methodLinkNest RX7 15 yX8_has "ChanceBounds"]
abbrev vwCl : List vw_C := [(RX0, TX0, 10), (RX1, TX1, 2), (RX2, TX2, 3), (RX3, TX3, 5), (RX4, TX4, 5), (RX5, TX5, 2), (RX6, TX6, 5), (RX7, TX7, 1), (RX8, TX8, 11), (RX9, TX9, 28)]
def st_isNest : Cond → Bool := fun w => match w with
  | .fieldLinkNest .. => true
  | .methodLinkNest .. => true
  | _ => false
theorem st_nest_all : ∀ w ∈ st_nest, st_isNest w = true := by decide +kernel
theorem st_nest_in : ∀ w ∈ st_nest, w ∈ lw_tbl := by decide +kernel
/-- the tables' words on private members of nest mates -/
def st_N (U : State) : Prop := ∀ w ∈ st_nest, va_Nw w U
theorem st_N.warm {s U : State} (hW : s.WarmedH U.vm) (h : st_N s) : st_N U := by
  intro w hw
  have h1 := st_nest_all w hw
  have h2 := h w hw
  cases w <;> first | (exact va_Nw.warmF hW h2) | (exact va_Nw.warmM hW h2) | (simp [st_isNest] at h1)
theorem st_N.calling {U : State} {g : JFrame} {mk : MethodId} {a : Array Value} (h : st_N U) : st_N (U.calling g mk a) := by
  intro w hw
  have h1 := st_nest_all w hw
  have h2 := h w hw
  cases w <;> first | (exact va_Nw.same rfl (by rfl) h2) | (simp [st_isNest] at h1)
/-- the array kinds -/
abbrev st_T (tc : Nat → ClassId) : List (ClassId × FieldType) := [(tc 0, .int), (tc 1, .long), (tc 2, .object "ChanceBounds$Saying"), (tc 3, .object "ChanceBounds$Corners")]
/-- what a method may know besides its world, of cells that it never writes -/
def st_Eok (E : (Nat → Prop) → State → Prop) : Prop := (∀ (A : Nat → Prop) (U : State) (g : JFrame) (mk : MethodId) (a : Array Value), E A U → E A (U.calling g mk a)) ∧ ∀ (A A' : Nat → Prop) (s U : State) (H : Heap) (locs : List Loc), E A s → va_S A s.heap H locs → (∀ q, A' q → A q) → U.heap = H → s.WarmedH U.vm → E A' U
def st_Pc (E : (Nat → Prop) → State → Prop) (D : va_G) (tc : Nat → ClassId) (sz : Nat) (av : List Value) (w0 : va_W) : Array Value → State → Prop :=
  va_Pc av (fun U => U.heap.size = sz ∧ va_P D vwCl w0 U.heap ∧ va_K D vwCl (st_T tc) U ∧ va_D (fun _ => True) w0 ∧ st_N U ∧ E (va_A w0 sz) U)
def st_Q (D : va_G) (w1 : va_W) (o : Option Value) (A : Nat → Prop) : Array Value → State → Outcome → State → Prop := fun _ st oc t => oc = .returned o ∧ va_P D vwCl w1 t.heap ∧ va_D A w1 ∧ va_F A st t
/-- THE CONTRACT: with the arguments av and the world w0 the method returns o, and leaves the world w1; it makes no cell -/
def st (l : Launch) (y : MethodName) (ws : List Cond) (rm : Room) (E : (Nat → Prop) → State → Prop) (D : va_G) (tc : Nat → ClassId) (av : List Value) (w0 : va_W) (o : Option Value) (w1 : va_W) : Prop :=
  ∀ sz : Nat, Met l y ws rm (st_Pc E D tc sz av w0) (st_Q D w1 o (va_A w0 sz)) 0 0 (va_A w0 sz)
theorem st_blind {E : (Nat → Prop) → State → Prop} (hE : st_Eok E) {D : va_G} {tc : Nat → ClassId} {sz : Nat} {av : List Value} {w0 : va_W} : FrameBlind (st_Pc E D tc sz av w0) := by
  intro a U g mk q
  obtain ⟨q0, q1, qP, qK, qD, qN, qE⟩ := q
  exact ⟨q0, q1, qP, va_K.moved (u := U) (U := U.calling g mk a) (Vm.Alike.refl U.vm) qK, qD, qN.calling, hE.1 _ _ _ _ _ qE⟩
theorem st_enter {l : Launch} {y : MethodName} {ws ws' : List Cond} {rm : Room} {E : (Nat → Prop) → State → Prop} {D : va_G} {tc : Nat → ClassId} {av : List Value} {w0 w1 : va_W} {o : Option Value} {cc : ByteArray} {maxL : Nat} {ret : Option FieldType}
    (hy : plainName y.cls = true) (hw : ws = Cond.code y cc maxL ret :: ws') (hlen : (lg_sl av).length ≤ maxL)
    (body : ∀ (p : Program) (e : Env) (s : State) (m : MethodId) (below : List Frame) (meth : Method) (c : Code) (A : Nat → Prop) (ls : Array Slot), p.tables.exec = Jvm.exec → c.code = cc → meth.sig.returnType = ret → c.maxLocals = maxL → (∀ w ∈ ws, w.before av.toArray s = true) → s.vm.findClass y.cls = some m.cls → meth.locks = false → va_K D vwCl (st_T tc) s → st_N s → E A s → (∀ q : Nat, s.heap.size ≤ q → A q) → va_P D vwCl w0 s.heap → va_D A w0 → va_S A s.heap s.heap [] → lv_has ls maxL (lv_args 0 av) →
      W p l e rm s m av.toArray below meth c s.heap [] 0 0 (MQ below (st_Q D w1 o A) av.toArray s 0 0 A) (F0 m 0 ls [])) : st l y ws rm E D tc av w0 o w1 := by
  intro sz
  refine Met.ofW (cc := cc) (maxL := maxL) (ret := ret) hy hw ?_
  intro p e s m args below meth c s₁ B hml hv
  obtain ⟨rfl, hsz, hP, hK, hD0, hN, hE⟩ := hv
  subst hsz
  have hl := lv_entry av (n := maxL) hlen
  rw [lg_entry_eq]
  exact body p e s m below meth c (va_A w0 s.heap.size) _ B.exec B.bytes B.returns hml (atoms_spec (ws := ws) B.pre) (findClass_of_methodNamed B.named) B.notSynchronized hK hN hE (fun q h => Or.inr h) hP hD0.self va_S.rf hl
/-- a world with the entries at some places put anew -/
def st_put : va_W → List Nat → va_W → va_W
  | ws, i :: is, c :: cs => st_put (ws.set i c) is cs
  | ws, _, _ => ws
theorem st_put_len : ∀ (pos : List Nat) (ws w1 : va_W), (st_put ws pos w1).length = ws.length
  | [], ws, w1 => by simp [st_put]
  | i :: is, ws, [] => by simp [st_put]
  | i :: is, ws, c :: cs => by rw [st_put, st_put_len is (ws.set i c) cs, List.length_set]
theorem st_put_at : ∀ (pos : List Nat) (ws w1 : va_W) (k : Nat) (q : Nat × va_E), va_nd pos = true → (st_put ws pos w1)[k]? = some q → (∃ j : Nat, pos[j]? = some k ∧ w1[j]? = some q) ∨ (ws[k]? = some q ∧ ∀ j : Nat, pos[j]? = some k → w1.length ≤ j)
  | [], ws, w1, k, q, _, h => by
    refine Or.inr ⟨by simpa [st_put] using h, fun j hj => by simp at hj⟩
  | i :: is, ws, [], k, q, _, h => Or.inr ⟨by simpa [st_put] using h, fun j _ => Nat.zero_le j⟩
  | i :: is, ws, c :: cs, k, q, hn, h => by
    simp only [va_nd, Bool.and_eq_true, decide_eq_true_eq] at hn
    rw [st_put] at h
    rcases st_put_at is (ws.set i c) cs k q hn.2 h with ⟨j, h1, h2⟩ | ⟨h1, h2⟩
    · exact Or.inl ⟨j + 1, by simpa using h1, by simpa using h2⟩
    · by_cases hk : k = i
      · subst hk
        rw [List.getElem?_set] at h1
        by_cases hl : k < ws.length
        · rw [if_pos rfl, if_pos hl] at h1
          exact Or.inl ⟨0, by simp, by simpa using h1⟩
        · rw [if_pos rfl, if_neg hl] at h1
          cases h1
      · rw [List.getElem?_set, if_neg (fun e => hk e.symm)] at h1
        refine Or.inr ⟨h1, fun j hj => ?_⟩
        cases j with
        | zero => simp at hj; exact absurd hj.symm hk
        | succ j => have := h2 j (by simpa using hj); simp; omega
theorem st_put_join {A : Nat → Prop} {D : va_G} {wsC w0 w1 : va_W} {H H1 : Heap} (hP : va_P D vwCl wsC H) (hD : va_D A wsC) {pos : List Nat} (hpos : pos.map (fun i => wsC[i]?) = w0.map some) (hnd : va_nd pos = true) (had : w1.map (fun q => q.1) = w0.map (fun q => q.1))
    (hk : ∀ q : Nat, q < H.size → ¬ va_A w0 H.size q → H1[q]? = H[q]?) (hP1 : va_P D vwCl w1 H1) : va_P D vwCl (st_put wsC pos w1) H1 ∧ va_D A (st_put wsC pos w1) := by
  have hlen : pos.length = w0.length := by have := congrArg List.length hpos; simpa using this
  have hlen1 : w1.length = w0.length := by have := congrArg List.length had; simpa using this
  have at0 : ∀ (j k : Nat), pos[j]? = some k → ∃ q : Nat × va_E, w0[j]? = some q ∧ wsC[k]? = some q := by
    intro j k hj
    have h1 : (pos.map (fun i => wsC[i]?))[j]? = some (wsC[k]?) := by rw [List.getElem?_map, hj]; rfl
    rw [hpos, List.getElem?_map] at h1
    cases h2 : w0[j]? with
    | none => rw [h2] at h1; cases h1
    | some q => rw [h2] at h1; exact ⟨q, rfl, (Option.some.inj h1).symm⟩
  have ad1 : ∀ (j : Nat) (q q' : Nat × va_E), w1[j]? = some q → w0[j]? = some q' → q.1 = q'.1 := by
    intro j q q' h1 h2
    have h3 : (w1.map (fun q => q.1))[j]? = some q.1 := by rw [List.getElem?_map, h1]; rfl
    rw [had, List.getElem?_map, h2] at h3
    exact (Option.some.inj h3).symm
  have ad : ∀ (k : Nat) (q : Nat × va_E), (st_put wsC pos w1)[k]? = some q → ∃ q' : Nat × va_E, wsC[k]? = some q' ∧ q.1 = q'.1 := by
    intro k q h
    rcases st_put_at pos wsC w1 k q hnd h with ⟨j, h1, h2⟩ | ⟨h1, -⟩
    · obtain ⟨q', e1, e2⟩ := at0 j k h1
      exact ⟨q', e2, ad1 j q q' h2 e1⟩
    · exact ⟨q, h1, rfl⟩
  refine ⟨fun k q h => ?_, fun i j x y hx hy hxy => ?_, fun k q h => ?_⟩
  · rcases st_put_at pos wsC w1 k q hnd h with ⟨j, h1, h2⟩ | ⟨h1, h2⟩
    · exact hP1 j q h2
    · have hl := (hP k q h1).lt
      refine (hP k q h1).kept (hk q.1 hl fun ha => ?_)
      rcases ha with ⟨j, e, hj⟩ | ha
      · have hjl : j < pos.length := by rw [hlen]; exact (List.getElem?_eq_some_iff.mp hj).1
        obtain ⟨k', hk'⟩ : ∃ k' : Nat, pos[j]? = some k' := ⟨pos[j], List.getElem?_eq_getElem hjl⟩
        obtain ⟨q', e1, e2⟩ := at0 j k' hk'
        rw [hj] at e1
        cases e1
        have := hD.1 k k' q (q.1, e) h1 e2 rfl
        subst this
        have := h2 j hk'
        omega
      · omega
  · obtain ⟨x', e1, e2⟩ := ad i x hx
    obtain ⟨y', e3, e4⟩ := ad j y hy
    exact hD.1 i j x' y' e1 e3 (by rw [← e2, ← e4]; exact hxy)
  · obtain ⟨q', e1, e2⟩ := ad k q h
    rw [e2]
    exact hD.2 k q' e1
section STC
variable {p : Program} {l : Launch} {e : Env} {R : Room} {s : State} {m : MethodId} {args : Array Value} {below : List Frame} {meth : Method} {c : Code} {H : Heap} {locs : List Loc} {cells slots : Nat} {Q : State → Prop}
variable {pc : Nat} {ls : Array Slot} {rest st0 As : List Value} {a : Array Value} {A : Nat → Prop} {D : va_G} {tc : Nat → ClassId} {E : (Nat → Prop) → State → Prop} {wsC w0 w1 : va_W} {o : Option Value} {pos : List Nat}
theorem st_call (hr : va_Run p l e R s m args below meth c H locs cells slots 0 0 (F0 m pc ls st0) rest (st_Q D w1 o (va_A w0 H.size) a) (va_A w0 H.size))
    (hP : va_P D vwCl wsC H) (hD : va_D A wsC) (hS : va_S A s.heap H locs) (hA : ∀ q : Nat, s.heap.size ≤ q → A q) (hpos : pos.map (fun i => wsC[i]?) = w0.map some) (hnd : va_nd pos = true) (had : w1.map (fun q => q.1) = w0.map (fun q => q.1))
    (kk : ∀ (H1 : Heap) (locs1 : List Loc), va_P D vwCl (st_put wsC pos w1) H1 → va_D A (st_put wsC pos w1) → va_S A s.heap H1 locs1 → W p l e R s m args below meth c H1 locs1 cells slots Q (F0 m (pc + 3) ls (o.toList ++ rest))) : W p l e R s m args below meth c H locs cells slots Q (F0 m pc ls st0) := by
  intro T hT X
  obtain ⟨v, st₀, t, T', L, h0, X', hL, e1, e2, ⟨hv, hP1, hD1, hz, hk⟩, stp⟩ := hr T hT X
  cases hv
  rw [h0] at hz hk
  have hF := va_free (wc := w0) hD hS hA pos hpos
  rw [← e1] at hz hk hP1
  obtain ⟨j1, j2⟩ := st_put_join hP hD hpos hnd had hk hP1
  obtain ⟨t2, a1, b1⟩ := kk T'.heap (locs ++ L) j1 j2
    ⟨Nat.le_trans hS.1 hz, fun q h1 h2 => by rw [hk q (Nat.lt_of_lt_of_le h1 hS.1) (fun z => h2 (hF q z))]; exact hS.2.1 q h1 h2, fun q hq => by
      rcases List.mem_append.mp hq with h | h
      · exact hS.2.2 q h
      · exact hF _ (hL q h)⟩ T' rfl X'
  exact ⟨t2, stp t2 a1, b1⟩
theorem st_pre (hEok : st_Eok E) (hE : E A s) (hK : va_K D vwCl (st_T tc) s) (hN : st_N s) (hP : va_P D vwCl wsC H) (hD : va_D A wsC) (hS : va_S A s.heap H locs) (hA : ∀ q : Nat, s.heap.size ≤ q → A q) (hpos : pos.map (fun i => wsC[i]?) = w0.map some) (hnd : va_nd pos = true) : PreS s H (st_Pc E D tc H.size As w0) As := by
  refine ⟨st_blind hEok, fun U hU hW => ⟨rfl, by rw [hU], ?_, va_K.moved hW.alike hK, (hD.sub pos hnd hpos).weaken (fun _ _ _ _ => trivial), hN.warm hW, hEok.2 A _ s U H locs hE hS (va_free hD hS hA pos hpos) hU hW⟩⟩
  rw [hU]
  intro k q hq
  have h1 : (pos.map (fun i => wsC[i]?))[k]? = some (some q) := by rw [hpos, List.getElem?_map, hq]; rfl
  rw [List.getElem?_map] at h1
  cases hi : pos[k]? with
  | none => rw [hi] at h1; cases h1
  | some i => rw [hi] at h1; exact hP i q (Option.some.inj h1)
variable {y : MethodName} {bytes cc : ByteArray} {maxL nL n index : Nat} {ret : Option FieldType} {ws : List Cond} {rm : Room} {Ts : List Cond} {own C host : String} {b : Addr}
theorem st_recv {q0 ci : Nat} {q : vw_C} {fs : List Value} (hK : va_K D vwCl (st_T tc) s) (hP : va_P D vwCl wsC H) (hc : vwCl[ci]? = some q) (he : wsC[q0]? = some (b, .inr (ci, fs))) : ∃ cell : Cell, H[b]? = some cell ∧ cell.vm.isStatics = false ∧ s.vm.findClass q.1 = some cell.cls := va_recv hK hP hc he
theorem st_callV (S : CallFix p m c cc nL s args Ts own) (hM : st l y ws rm E D tc (.ref b :: As) w0 o w1) (cw : CallW R s args own C index y bytes maxL ret ws rm 0 0 n)
    (hrc : ∃ cell : Cell, H[b]? = some cell ∧ cell.vm.isStatics = false ∧ s.vm.findClass C = some cell.cls) (hEok : st_Eok E) (hE : E A s) (hK : va_K D vwCl (st_T tc) s) (hN : st_N s)
    (hP : va_P D vwCl wsC H) (hD : va_D A wsC) (hS : va_S A s.heap H locs) (hA : ∀ q : Nat, s.heap.size ≤ q → A q) (hpos : pos.map (fun i => wsC[i]?) = w0.map some) (hnd : va_nd pos = true) (had : w1.map (fun q => q.1) = w0.map (fun q => q.1))
    (hn : As.length = n) (hsz : ls.size = nL) (hst : st0 = As.reverse ++ .ref b :: rest) (hW : (rest.map fun v => v.category).sum ≤ 8) (hdg : decode cc pc = .ok (.invokevirtual index, 3)) (hf : cells ≤ R.cells ∧ slots ≤ R.slots)
    (kk : ∀ (H1 : Heap) (locs1 : List Loc), va_P D vwCl (st_put wsC pos w1) H1 → va_D A (st_put wsC pos w1) → va_S A s.heap H1 locs1 → W p l e R s m args below meth c H1 locs1 cells slots Q (F0 m (pc + 3) ls (o.toList ++ rest))) : W p l e R s m args below meth c H locs cells slots Q (F0 m pc ls st0) := by
  have hpre : PreS s H (st_Pc E D tc H.size (.ref b :: As) w0) (.ref b :: As) := st_pre hEok hE hK hN hP hD hS hA hpos hnd
  exact st_call (va_runV (As := As) (rest := rest) S (hM H.size) cw ⟨hpre.1, hrc, hpre.2⟩ rfl hn hsz hst (lv_room hW) hdg hf) hP hD hS hA hpos hnd had kk
theorem st_callVN (S : CallFix p m c cc nL s args Ts own) (hM : st l y ws rm E D tc (.ref b :: As) w0 o w1) (cw : va_CN R s args own index y host bytes maxL ret ws rm 0 0 n ∧ (Cond.instanceMethod y).before args s = true ∧ (Cond.selects C y y).before args s = true)
    (hrc : ∃ cell : Cell, H[b]? = some cell ∧ cell.vm.isStatics = false ∧ s.vm.findClass C = some cell.cls) (hEok : st_Eok E) (hE : E A s) (hK : va_K D vwCl (st_T tc) s) (hN : st_N s)
    (hP : va_P D vwCl wsC H) (hD : va_D A wsC) (hS : va_S A s.heap H locs) (hA : ∀ q : Nat, s.heap.size ≤ q → A q) (hpos : pos.map (fun i => wsC[i]?) = w0.map some) (hnd : va_nd pos = true) (had : w1.map (fun q => q.1) = w0.map (fun q => q.1))
    (hn : As.length = n) (hsz : ls.size = nL) (hst : st0 = As.reverse ++ .ref b :: rest) (hW : (rest.map fun v => v.category).sum ≤ 8) (hdg : decode cc pc = .ok (.invokevirtual index, 3)) (hf : cells ≤ R.cells ∧ slots ≤ R.slots)
    (kk : ∀ (H1 : Heap) (locs1 : List Loc), va_P D vwCl (st_put wsC pos w1) H1 → va_D A (st_put wsC pos w1) → va_S A s.heap H1 locs1 → W p l e R s m args below meth c H1 locs1 cells slots Q (F0 m (pc + 3) ls (o.toList ++ rest))) : W p l e R s m args below meth c H locs cells slots Q (F0 m pc ls st0) := by
  have hpre : PreS s H (st_Pc E D tc H.size (.ref b :: As) w0) (.ref b :: As) := st_pre hEok hE hK hN hP hD hS hA hpos hnd
  exact st_call (va_runVN (As := As) (rest := rest) S (hM H.size) cw ⟨hpre.1, hrc, hpre.2⟩ rfl hn hsz hst (lv_room hW) hdg hf) hP hD hS hA hpos hnd had kk
theorem st_callS (S : CallFix p m c cc nL s args Ts own) (hM : st l y ws rm E D tc As w0 o w1) (cw : CallB R s args own index y bytes maxL ret ws rm 0 0 n ∧ (Cond.static y).before args s = true)
    (hEok : st_Eok E) (hE : E A s) (hK : va_K D vwCl (st_T tc) s) (hN : st_N s)
    (hP : va_P D vwCl wsC H) (hD : va_D A wsC) (hS : va_S A s.heap H locs) (hA : ∀ q : Nat, s.heap.size ≤ q → A q) (hpos : pos.map (fun i => wsC[i]?) = w0.map some) (hnd : va_nd pos = true) (had : w1.map (fun q => q.1) = w0.map (fun q => q.1))
    (hn : As.length = n) (hsz : ls.size = nL) (hst : st0 = As.reverse ++ rest) (hW : (rest.map fun v => v.category).sum ≤ 8) (hdg : decode cc pc = .ok (.invokestatic index, 3)) (hf : cells ≤ R.cells ∧ slots ≤ R.slots)
    (kk : ∀ (H1 : Heap) (locs1 : List Loc), va_P D vwCl (st_put wsC pos w1) H1 → va_D A (st_put wsC pos w1) → va_S A s.heap H1 locs1 → W p l e R s m args below meth c H1 locs1 cells slots Q (F0 m (pc + 3) ls (o.toList ++ rest))) : W p l e R s m args below meth c H locs cells slots Q (F0 m pc ls st0) :=
  st_call (va_runS (As := As) (rest := rest) S (hM H.size) cw (st_pre hEok hE hK hN hP hD hS hA hpos hnd) rfl hn hsz hst (lv_room hW) hdg hf) hP hD hS hA hpos hnd had kk
theorem st_callSN (S : CallFix p m c cc nL s args Ts own) (hM : st l y ws rm E D tc As w0 o w1) (cw : va_CN R s args own index y host bytes maxL ret ws rm 0 0 n ∧ (Cond.static y).before args s = true ∧ True)
    (hEok : st_Eok E) (hE : E A s) (hK : va_K D vwCl (st_T tc) s) (hN : st_N s)
    (hP : va_P D vwCl wsC H) (hD : va_D A wsC) (hS : va_S A s.heap H locs) (hA : ∀ q : Nat, s.heap.size ≤ q → A q) (hpos : pos.map (fun i => wsC[i]?) = w0.map some) (hnd : va_nd pos = true) (had : w1.map (fun q => q.1) = w0.map (fun q => q.1))
    (hn : As.length = n) (hsz : ls.size = nL) (hst : st0 = As.reverse ++ rest) (hW : (rest.map fun v => v.category).sum ≤ 8) (hdg : decode cc pc = .ok (.invokestatic index, 3)) (hf : cells ≤ R.cells ∧ slots ≤ R.slots)
    (kk : ∀ (H1 : Heap) (locs1 : List Loc), va_P D vwCl (st_put wsC pos w1) H1 → va_D A (st_put wsC pos w1) → va_S A s.heap H1 locs1 → W p l e R s m args below meth c H1 locs1 cells slots Q (F0 m (pc + 3) ls (o.toList ++ rest))) : W p l e R s m args below meth c H locs cells slots Q (F0 m pc ls st0) :=
  st_call (va_runSN (As := As) (rest := rest) S (hM H.size) cw (st_pre hEok hE hK hN hP hD hS hA hpos hnd) rfl hn hsz hst (lv_room hW) hdg hf) hP hD hS hA hpos hnd had kk
/-- the ends -/
theorem st_iret (hx : p.tables.exec = Jvm.exec) (hb : c.code = cc) (hr : meth.sig.returnType = some .int) (hlocks : meth.locks = false) (hP : va_P D vwCl w1 H) (hD : va_D A w1) (hS : va_S A s.heap H locs) {v : Int32} (hdg : decode cc pc = .ok (.ireturn, 1)) : W p l e R s m args below meth c H locs cells slots (MQ below (st_Q D w1 (some (.int v)) A) args s cells slots A) (F0 m pc ls [.int v]) :=
  W.iret hx hb hr (fun t ht hW => ⟨rfl, by rw [ht]; exact hP, hD, hS.F ht⟩) hS.2.2 hdg hlocks
theorem st_zret (hx : p.tables.exec = Jvm.exec) (hb : c.code = cc) {ty : FieldType} (hr : meth.sig.returnType = some ty) (hlocks : meth.locks = false) (hP : va_P D vwCl w1 H) (hD : va_D A w1) (hS : va_S A s.heap H locs) {v : Int32} (hn : narrow ty (.int v) = .int v) (hdg : decode cc pc = .ok (.ireturn, 1)) : W p l e R s m args below meth c H locs cells slots (MQ below (st_Q D w1 (some (.int v)) A) args s cells slots A) (F0 m pc ls [.int v]) :=
  W.zret hx hb hr hn (fun t ht hW => ⟨rfl, by rw [ht]; exact hP, hD, hS.F ht⟩) hS.2.2 hdg hlocks
theorem st_lret (hx : p.tables.exec = Jvm.exec) (hb : c.code = cc) (hr : meth.sig.returnType = some .long) (hlocks : meth.locks = false) (hP : va_P D vwCl w1 H) (hD : va_D A w1) (hS : va_S A s.heap H locs) {v : Int64} (hdg : decode cc pc = .ok (.lreturn, 1)) : W p l e R s m args below meth c H locs cells slots (MQ below (st_Q D w1 (some (.long v)) A) args s cells slots A) (F0 m pc ls [.long v]) :=
  W.lret hx hb hr (fun t ht hW => ⟨rfl, by rw [ht]; exact hP, hD, hS.F ht⟩) hS.2.2 hdg hlocks
theorem st_vret (hx : p.tables.exec = Jvm.exec) (hb : c.code = cc) (hr : meth.sig.returnType = none) (hlocks : meth.locks = false) (hP : va_P D vwCl w1 H) (hD : va_D A w1) (hS : va_S A s.heap H locs) (hdg : decode cc pc = .ok (.return_, 1)) : W p l e R s m args below meth c H locs cells slots (MQ below (st_Q D w1 none A) args s cells slots A) (F0 m pc ls []) :=
  W.vret hx hb hr (fun t ht hW => ⟨rfl, by rw [ht]; exact hP, hD, hS.F ht⟩) hS.2.2 hdg hlocks
theorem st_aret (hx : p.tables.exec = Jvm.exec) (hb : c.code = cc) {rt : FieldType} (hr : meth.sig.returnType = some rt) (hrt : (∃ n, rt = .object n) ∨ ∃ t, rt = .array t) (hlocks : meth.locks = false) (hP : va_P D vwCl w1 H) (hD : va_D A w1) (hS : va_S A s.heap H locs) {v : Nat} (hdg : decode cc pc = .ok (.areturn, 1)) : W p l e R s m args below meth c H locs cells slots (MQ below (st_Q D w1 (some (.ref v)) A) args s cells slots A) (F0 m pc ls [.ref v]) :=
  W.aret hx hb hr hrt (Or.inr ⟨v, rfl⟩) (fun t ht hW => ⟨rfl, by rw [ht]; exact hP, hD, hS.F ht⟩) hS.2.2 hdg hlocks
theorem st_nmi {x y : Int32} (h : x = y) (k : W p l e R s m args below meth c H locs cells slots Q (F0 m pc ls (.int y :: rest))) : W p l e R s m args below meth c H locs cells slots Q (F0 m pc ls (.int x :: rest)) := by subst h; exact k
theorem st_nml {x y : Int64} (h : x = y) (k : W p l e R s m args below meth c H locs cells slots Q (F0 m pc ls (.long y :: rest))) : W p l e R s m args below meth c H locs cells slots Q (F0 m pc ls (.long x :: rest)) := by subst h; exact k
end STC
/-- a loop, as a function: the body says 'done' or 'on' -/
def lp {σ ρ : Type} (f : σ → Option (ρ ⊕ σ)) : Nat → σ → Option ρ
  | 0, _ => none
  | k + 1, s => match f s with
    | none => none
    | some (.inl r) => some r
    | some (.inr s') => lp f k s'
theorem lp_W {σ ρ : Type} (f : σ → Option (ρ ⊕ σ)) (P : σ → Prop) (Z : ρ → Prop) (hs : ∀ s o, f s = some o → (∀ s', o = .inr s' → P s') → (∀ r, o = .inl r → Z r) → P s) : ∀ (k : Nat) (s : σ) (r : ρ), lp f k s = some r → Z r → P s := by
  intro k
  induction k with
  | zero => intro s r h; cases h
  | succ k ih =>
    intro s r h hz
    rw [lp] at h
    cases ho : f s with
    | none => rw [ho] at h; cases h
    | some o =>
      rw [ho] at h
      refine hs s o ho ?_ ?_
      · intro s' e; subst e; exact ih s' r h hz
      · intro r' e; subst e; cases h; exact hz
theorem gd_ok {c : Prop} [Decidable c] {α : Type} {x : Option α} {o : α} (h : (if c then none else x) = some o) : ¬ c ∧ x = some o := by
  by_cases hc : c
  · rw [if_pos hc] at h; cases h
  · rw [if_neg hc] at h; exact ⟨hc, h⟩
theorem bd_ok {α β : Type} {x : Option α} {k : α → Option β} {o : β} (h : x.bind k = some o) : ∃ a, x = some a ∧ k a = some o := by
  cases x with
  | none => cases h
  | some a => exact ⟨a, rfl, h⟩
theorem ifp {c : Prop} [Decidable c] {α : Type} {x y : Option α} {o : α} (hc : c) (h : (if c then x else y) = some o) : x = some o := by
  rw [if_pos hc] at h; exact h
theorem ifn {c : Prop} [Decidable c] {α : Type} {x y : Option α} {o : α} (hc : ¬ c) (h : (if c then x else y) = some o) : y = some o := by
  rw [if_neg hc] at h; exact h
theorem st_lt4 {i : Int32} (h : ¬ (i < 0 ∨ 4 ≤ i.toNatClampNeg)) : i.toNatClampNeg = 0 ∨ i.toNatClampNeg = 1 ∨ i.toNatClampNeg = 2 ∨ i.toNatClampNeg = 3 := by
  have h1 : ¬ 4 ≤ i.toNatClampNeg := fun q => h (Or.inr q)
  omega
theorem st_lt5 {i : Int32} (h : ¬ (i < 0 ∨ 5 ≤ i.toNatClampNeg)) : i.toNatClampNeg = 0 ∨ i.toNatClampNeg = 1 ∨ i.toNatClampNeg = 2 ∨ i.toNatClampNeg = 3 ∨ i.toNatClampNeg = 4 := by
  have h1 : ¬ 5 ≤ i.toNatClampNeg := fun q => h (Or.inr q)
  omega
theorem st_lt5n {i : Nat} (h : ¬ 5 ≤ i) : i = 0 ∨ i = 1 ∨ i = 2 ∨ i = 3 ∨ i = 4 := by omega
theorem st_pr5 {i : Int32} (h : ¬ (i < 0 ∨ 5 ≤ i.toNatClampNeg)) (h2 : ¬ (i - (1 : Int32) < 0 ∨ 5 ≤ (i - (1 : Int32)).toNatClampNeg)) : (i.toNatClampNeg = 1 ∧ (i - (1 : Int32)).toNatClampNeg = 0) ∨ (i.toNatClampNeg = 2 ∧ (i - (1 : Int32)).toNatClampNeg = 1) ∨ (i.toNatClampNeg = 3 ∧ (i - (1 : Int32)).toNatClampNeg = 2) ∨ (i.toNatClampNeg = 4 ∧ (i - (1 : Int32)).toNatClampNeg = 3) := by
  obtain ⟨j, hj, e⟩ := nI_of (fun q => h (Or.inl q))
  subst e
  have h1 : ¬ 5 ≤ j := fun q => h (Or.inr (by rw [nI_clamp hj]; exact q))
  rcases (show j = 0 ∨ j = 1 ∨ j = 2 ∨ j = 3 ∨ j = 4 by omega) with q | q | q | q | q <;> subst q
  · exact absurd (Or.inl (by decide)) h2
  · exact Or.inl (by decide)
  · exact Or.inr (Or.inl (by decide))
  · exact Or.inr (Or.inr (Or.inl (by decide)))
  · exact Or.inr (Or.inr (Or.inr (by decide)))
theorem sw_out4 {x : Int32} (h0 : ¬ x = 0) (h1 : ¬ x = 1) (h2 : ¬ x = 2) (h3 : ¬ x = 3) : x.toInt < 0 ∨ 3 < x.toInt := by
  have e0 : ¬ x.toInt = 0 := fun q => h0 (Int32.toInt_inj.mp q)
  have e1 : ¬ x.toInt = 1 := fun q => h1 (Int32.toInt_inj.mp q)
  have e2 : ¬ x.toInt = 2 := fun q => h2 (Int32.toInt_inj.mp q)
  have e3 : ¬ x.toInt = 3 := fun q => h3 (Int32.toInt_inj.mp q)
  omega
theorem sw_out5 {x : Int32} (h0 : ¬ x = 0) (h1 : ¬ x = 1) (h2 : ¬ x = 2) (h3 : ¬ x = 3) (h4 : ¬ x = 4) : x.toInt < 0 ∨ 4 < x.toInt := by
  have e0 : ¬ x.toInt = 0 := fun q => h0 (Int32.toInt_inj.mp q)
  have e1 : ¬ x.toInt = 1 := fun q => h1 (Int32.toInt_inj.mp q)
  have e2 : ¬ x.toInt = 2 := fun q => h2 (Int32.toInt_inj.mp q)
  have e3 : ¬ x.toInt = 3 := fun q => h3 (Int32.toInt_inj.mp q)
  have e4 : ¬ x.toInt = 4 := fun q => h4 (Int32.toInt_inj.mp q)
  omega
theorem st_nb {v : Int32} (h : ¬ ¬ (v = 0 ∨ v = 1)) : narrow .boolean (.int v) = .int v := by
  rcases Classical.not_not.mp h with q | q <;> subst q <;> rfl
theorem st_fb {v : Int32} (h : ¬ ¬ (v = 0 ∨ v = 1)) : fits .boolean (.int v) = true := by
  rcases Classical.not_not.mp h with q | q <;> subst q <;> rfl
theorem st_seg_nd : ∀ (k n : Nat), va_nd (List.range' n k) = true
  | 0, n => rfl
  | k + 1, n => by
    rw [List.range'_succ]
    simp only [va_nd, Bool.and_eq_true, decide_eq_true_eq]
    exact ⟨by simp [List.mem_range'_1]; omega, st_seg_nd k (n + 1)⟩
theorem st_seg_at : ∀ (w0 pre post : va_W), (List.range' pre.length w0.length).map (fun i => (pre ++ (w0 ++ post))[i]?) = w0.map some
  | [], pre, post => rfl
  | a :: w0, pre, post => by
    have ih := st_seg_at w0 (pre ++ [a]) post
    simp only [List.length_append, List.length_cons, List.length_nil, List.append_assoc, List.cons_append, List.nil_append] at ih
    simp only [List.length_cons, List.range'_succ, List.map_cons, List.cons_append]
    rw [ih]
    simp
theorem st_seg_set : ∀ (w0 w1 pre post : va_W), w1.length = w0.length → st_put (pre ++ (w0 ++ post)) (List.range' pre.length w0.length) w1 = pre ++ (w1 ++ post)
  | [], [], pre, post, _ => rfl
  | [], _ :: _, _, _, h => by simp at h
  | _ :: _, [], _, _, h => by simp at h
  | a :: w0, c :: w1, pre, post, h => by
    have ih := st_seg_set w0 w1 (pre ++ [c]) post (by simpa using h)
    simp only [List.length_append, List.length_cons, List.length_nil, List.append_assoc, List.cons_append, List.nil_append] at ih
    simp only [List.length_cons, List.range'_succ, st_put, List.cons_append]
    rw [show (pre ++ a :: (w0 ++ post)).set pre.length c = pre ++ c :: (w0 ++ post) by simp]
    exact ih
theorem st_segpos {wsC w0 : va_W} {n m k : Nat} (h : List.take n wsC ++ (w0 ++ List.drop m wsC) = wsC) (hn : (List.take n wsC).length = n) (hk : w0.length = k) : (List.range' n k).map (fun i => wsC[i]?) = w0.map some := by
  have := st_seg_at w0 (List.take n wsC) (List.drop m wsC)
  rw [h, hn, hk] at this
  exact this
theorem st_segput {wsC w0 w1 W1 : va_W} {n m k : Nat} (h : List.take n wsC ++ (w0 ++ List.drop m wsC) = wsC) (hn : (List.take n wsC).length = n) (hk : w0.length = k) (h1 : w1.length = k) (hW : List.take n wsC ++ (w1 ++ List.drop m wsC) = W1) : st_put wsC (List.range' n k) w1 = W1 := by
  have := st_seg_set w0 w1 (List.take n wsC) (List.drop m wsC) (by rw [h1, hk])
  rw [h, hn, hk] at this
  rw [this]
  exact hW
theorem st_segP {D : va_G} {H : Heap} {wsC w0 w1 W1 : va_W} {n m k : Nat} (h : List.take n wsC ++ (w0 ++ List.drop m wsC) = wsC) (hn : (List.take n wsC).length = n) (hk : w0.length = k) (h1 : w1.length = k) (hW : List.take n wsC ++ (w1 ++ List.drop m wsC) = W1) (hP : va_P D vwCl (st_put wsC (List.range' n k) w1) H) : va_P D vwCl W1 H := by
  rw [st_segput h hn hk h1 hW] at hP
  exact hP
theorem st_segD {A : Nat → Prop} {wsC w0 w1 W1 : va_W} {n m k : Nat} (h : List.take n wsC ++ (w0 ++ List.drop m wsC) = wsC) (hn : (List.take n wsC).length = n) (hk : w0.length = k) (h1 : w1.length = k) (hW : List.take n wsC ++ (w1 ++ List.drop m wsC) = W1) (hD : va_D A (st_put wsC (List.range' n k) w1)) : va_D A W1 := by
  rw [st_segput h hn hk h1 hW] at hD
  exact hD
