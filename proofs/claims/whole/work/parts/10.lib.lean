/-! ===== the writer's own layer: worlds by members, contracts of methods that make nothing, calls ===== -/
theorem sp_P_iff {D : va_G} {cl : List vw_C} {ws : va_W} {H : Heap} : va_P D cl ws H ↔ ∀ q ∈ ws, va_at D cl q H :=
  ⟨fun h q hq => by obtain ⟨i, hi⟩ := List.getElem?_of_mem hq; exact h i q hi, fun h _ q hk => h q (List.mem_of_getElem? hk)⟩
theorem sp_D_iff {A : Nat → Prop} {ws : va_W} : va_D A ws ↔ (ws.map Prod.fst).Nodup ∧ ∀ q ∈ ws, A q.1 := by
  constructor
  · intro h
    refine ⟨?_, fun q hq => by obtain ⟨i, hi⟩ := List.getElem?_of_mem hq; exact h.2 i q hi⟩
    unfold List.Nodup
    rw [List.pairwise_iff_getElem]
    intro i j hi hj hij he
    have hi' : i < ws.length := by simpa using hi
    have hj' : j < ws.length := by simpa using hj
    have := h.1 i j ws[i] ws[j] (List.getElem?_eq_getElem hi') (List.getElem?_eq_getElem hj') (by simpa using he)
    omega
  · intro h
    refine ⟨fun i j p q hi hj he => ?_, fun k q hk => h.2 q (List.mem_of_getElem? hk)⟩
    have hn := h.1
    unfold List.Nodup at hn
    rw [List.pairwise_iff_getElem] at hn
    obtain ⟨hi', rfl⟩ := List.getElem?_eq_some_iff.mp hi
    obtain ⟨hj', rfl⟩ := List.getElem?_eq_some_iff.mp hj
    rcases Nat.lt_trichotomy i j with h1 | h1 | h1
    · exact absurd (by rw [List.getElem_map, List.getElem_map]; exact he) (hn i j (by simpa using hi') (by simpa using hj') h1)
    · exact h1
    · exact absurd (by rw [List.getElem_map, List.getElem_map]; exact he.symm) (hn j i (by simpa using hj') (by simpa using hi') h1)
theorem sp_P_perm {D : va_G} {cl : List vw_C} {w1 w2 : va_W} {H : Heap} (h : w1.Perm w2) (hP : va_P D cl w1 H) : va_P D cl w2 H :=
  sp_P_iff.mpr fun q hq => sp_P_iff.mp hP q (h.mem_iff.mpr hq)
theorem sp_D_perm {A : Nat → Prop} {w1 w2 : va_W} (h : w1.Perm w2) (hD : va_D A w1) : va_D A w2 :=
  sp_D_iff.mpr ⟨(h.map Prod.fst).nodup_iff.mp (sp_D_iff.mp hD).1, fun q hq => (sp_D_iff.mp hD).2 q (h.mem_iff.mpr hq)⟩
theorem sp_P_l {D : va_G} {cl : List vw_C} {w1 w2 : va_W} {H : Heap} (hP : va_P D cl (w1 ++ w2) H) : va_P D cl w1 H :=
  sp_P_iff.mpr fun q hq => sp_P_iff.mp hP q (List.mem_append_left _ hq)
theorem sp_P_r {D : va_G} {cl : List vw_C} {w1 w2 : va_W} {H : Heap} (hP : va_P D cl (w1 ++ w2) H) : va_P D cl w2 H :=
  sp_P_iff.mpr fun q hq => sp_P_iff.mp hP q (List.mem_append_right _ hq)
theorem sp_D_l {A : Nat → Prop} {w1 w2 : va_W} (hD : va_D A (w1 ++ w2)) : va_D A w1 := by
  have h := sp_D_iff.mp hD
  rw [List.map_append, List.nodup_append] at h
  exact sp_D_iff.mpr ⟨h.1.1, fun q hq => h.2 q (List.mem_append_left _ hq)⟩
theorem sp_D_r {A : Nat → Prop} {w1 w2 : va_W} (hD : va_D A (w1 ++ w2)) : va_D A w2 := by
  have h := sp_D_iff.mp hD
  rw [List.map_append, List.nodup_append] at h
  exact sp_D_iff.mpr ⟨h.1.2.1, fun q hq => h.2 q (List.mem_append_right _ hq)⟩
theorem sp_D_ne {A : Nat → Prop} {w1 w2 : va_W} (hD : va_D A (w1 ++ w2)) : ∀ p ∈ w1, ∀ q ∈ w2, p.1 ≠ q.1 := by
  have h := sp_D_iff.mp hD
  rw [List.map_append, List.nodup_append] at h
  exact fun p hp q hq => h.1.2.2 p.1 (List.mem_map_of_mem hp) q.1 (List.mem_map_of_mem hq)
theorem sp_A_iff {ws : va_W} {sz q : Nat} : va_A ws sz q ↔ (∃ x ∈ ws, x.1 = q) ∨ sz ≤ q := by
  constructor
  · rintro (⟨k, e, h⟩ | h)
    · exact Or.inl ⟨_, List.mem_of_getElem? h, rfl⟩
    · exact Or.inr h
  · rintro (⟨x, hx, rfl⟩ | h)
    · obtain ⟨i, hi⟩ := List.getElem?_of_mem hx
      exact Or.inl ⟨i, x.2, hi⟩
    · exact Or.inr h
/-- behind a call on the front part of a world -/
theorem sp_join {A0 : Nat → Prop} {D : va_G} {cl : List vw_C} {wc wr w1 : va_W} {H H1 : Heap} (hP : va_P D cl (wc ++ wr) H) (hD : va_D A0 (wc ++ wr)) (hk : ∀ q : Nat, q < H.size → ¬ va_A wc H.size q → H1[q]? = H[q]?) (hF : ∀ q, va_A wc H.size q → A0 q) (hP1 : va_P D cl w1 H1) (hD1 : va_D (va_A wc H.size) w1) : va_P D cl (w1 ++ wr) H1 ∧ va_D A0 (w1 ++ wr) := by
  have apart : ∀ q ∈ wr, q.1 < H.size ∧ ¬ va_A wc H.size q.1 := by
    intro q hq
    have hl := (sp_P_iff.mp hP q (List.mem_append_right _ hq)).lt
    refine ⟨hl, fun h => ?_⟩
    rcases sp_A_iff.mp h with ⟨x, hx, e⟩ | h
    · exact sp_D_ne hD x hx q hq e
    · omega
  refine ⟨sp_P_iff.mpr fun q hq => ?_, ?_⟩
  · rcases List.mem_append.mp hq with h | h
    · exact sp_P_iff.mp hP1 q h
    · exact (sp_P_iff.mp hP q (List.mem_append_right _ h)).kept (hk q.1 (apart q h).1 (apart q h).2)
  · refine va_D.app (hD1.weaken fun _ q _ h => hF q.1 h) (sp_D_r hD) (fun i j x y hx hy hxy => ?_)
    exact (apart y (List.mem_of_getElem? hy)).2 (by rw [← hxy]; exact hD1.2 i x hx)
theorem sp_free {A0 : Nat → Prop} {wc wr : va_W} {H0 H : Heap} {locs : List Loc} (hD : va_D A0 (wc ++ wr)) (hS : va_S A0 H0 H locs) (hA : ∀ q, H0.size ≤ q → A0 q) : ∀ q, va_A wc H.size q → A0 q := by
  intro q h
  rcases sp_A_iff.mp h with ⟨x, hx, rfl⟩ | h
  · exact (sp_D_iff.mp hD).2 x (List.mem_append_left _ hx)
  · exact hA q (Nat.le_trans hS.1 h)
/-- the classes of arrays, and the links between nest mates that methods need -/
abbrev sp_G : Type := va_G × ClassId × ClassId × ClassId × ClassId × ClassId
def sp_ty (g : sp_G) : List (ClassId × FieldType) := [(g.2.1, .int), (g.2.2.1, .long), (g.2.2.2.1, .boolean), (g.2.2.2.2.1, .object RX1), (g.2.2.2.2.2, .object RX3)]
def sp_K (g : sp_G) (U : State) : Prop := va_K g.1 vwCl (sp_ty g) U ∧ va_Nw (.methodLinkNest RX3 41 yX4_percentAt "StrikePlan") U
theorem sp_K.blind {g : sp_G} {U : State} {f : JFrame} {mk : MethodId} {a : Array Value} (h : sp_K g U) : sp_K g (U.calling f mk a) :=
  ⟨va_K.moved (u := U) (U := U.calling f mk a) (Vm.Alike.refl U.vm) h.1, va_Nw.same rfl rfl h.2⟩
theorem sp_K.warm {g : sp_G} {s U : State} (hW : s.WarmedH U.vm) (h : sp_K g s) : sp_K g U := ⟨va_K.moved hW.alike h.1, va_Nw.warmM hW h.2⟩
/-- a method's start: its world, and nothing else -/
def sp_pre (g : sp_G) (sz : Nat) (w : va_W) (U : State) : Prop := U.heap.size = sz ∧ va_P g.1 vwCl w U.heap ∧ sp_K g U ∧ va_D (fun _ => True) w
def sp_at (g : sp_G) (A : Nat → Prop) {S : Type} (wS : S → va_W) (u : S) (t : State) : Prop := va_P g.1 vwCl (wS u) t.heap ∧ va_D A (wS u)
def bI (b : Bool) : Int32 := if b then 1 else 0
/-- contracts: an int, a boolean, nothing is answered; no cell is made -/
def sp_CI (l : Launch) (g : sp_G) (y : MethodName) (ws : List Cond) (rm : Room) (av : List Value) (w : va_W) {S : Type} (post : Int32 → S → Prop) (wS : S → va_W) : Prop :=
  ∀ sz : Nat, Met l y ws rm (va_Pc av (sp_pre g sz w)) (va_Qi post (sp_at g (va_A w sz) wS) (va_A w sz)) 0 0 (va_A w sz)
def sp_CB (l : Launch) (g : sp_G) (y : MethodName) (ws : List Cond) (rm : Room) (av : List Value) (w : va_W) {S : Type} (post : Bool → S → Prop) (wS : S → va_W) : Prop :=
  sp_CI l g y ws rm av w (fun r u => ∃ b : Bool, r = bI b ∧ post b u) wS
def sp_CV (l : Launch) (g : sp_G) (y : MethodName) (ws : List Cond) (rm : Room) (av : List Value) (w : va_W) {S : Type} (post : S → Prop) (wS : S → va_W) : Prop :=
  ∀ sz : Nat, Met l y ws rm (va_Pc av (sp_pre g sz w)) (va_Qv post (sp_at g (va_A w sz) wS) (va_A w sz)) 0 0 (va_A w sz)
set_option maxHeartbeats 4000000 in
theorem sp_CI.of {l : Launch} {g : sp_G} {y : MethodName} {ws ws' : List Cond} {rm : Room} {av : List Value} {w : va_W} {S : Type} {post : Int32 → S → Prop} {wS : S → va_W} {cc : ByteArray} {maxL : Nat} (hy : plainName y.cls = true) (hw : ws = Cond.code y cc maxL (some .int) :: ws') (hlen : (lg_sl av).length ≤ maxL)
    (body : ∀ (p : Program) (e : Env) (s : State) (m : MethodId) (below : List Frame) (meth : Method) (c : Code) (Q : State → Prop) (A : Nat → Prop) (ls : Array Slot), CallFix p m c cc maxL s av.toArray ws y.cls → sp_K g s → va_P g.1 vwCl w s.heap → va_D A w → (∀ q, s.heap.size ≤ q → A q) → lv_has ls maxL (lv_args 0 av) →
      (∀ (H : Heap) (locs : List Loc) (pc : Nat) (ls : Array Slot) (r : Int32) (u : S), decode cc pc = .ok (.ireturn, 1) → post r u → va_P g.1 vwCl (wS u) H → va_D A (wS u) → va_S A s.heap H locs → W p l e rm s m av.toArray below meth c H locs 0 0 Q (F0 m pc ls [.int r])) →
      W p l e rm s m av.toArray below meth c s.heap [] 0 0 Q (F0 m 0 ls [])) : sp_CI l g y ws rm av w post wS := by
  intro sz
  refine Met.ofW (cc := cc) (maxL := maxL) (ret := some .int) hy hw ?_
  intro p e s m args below meth c s₁ B hml hv
  obtain ⟨rfl, hsz, hP, hK, hD0⟩ := hv
  subst hsz
  have hD := hD0.self (sz := s.heap.size)
  rw [lg_entry_eq]
  refine body p e s m below meth c _ (va_A w s.heap.size) _ ⟨B.exec, B.bytes, hml, findClass_of_methodNamed B.named, atoms_spec (ws := ws) B.pre⟩ hK hP hD (fun q h => Or.inr h) (lv_entry av hlen) ?_
  intro H locs pc ls r u hd hp hP1 hD1 hS
  have hlocks := B.notSynchronized
  exact W.iret (v := r) B.exec B.bytes B.returns (fun t ht hW => ⟨⟨r, u, rfl, hp, by rw [ht]; exact hP1, hD1⟩, hS.F ht⟩) hS.2.2 hd
set_option maxHeartbeats 4000000 in
theorem sp_CB.of {l : Launch} {g : sp_G} {y : MethodName} {ws ws' : List Cond} {rm : Room} {av : List Value} {w : va_W} {S : Type} {post : Bool → S → Prop} {wS : S → va_W} {cc : ByteArray} {maxL : Nat} (hy : plainName y.cls = true) (hw : ws = Cond.code y cc maxL (some .boolean) :: ws') (hlen : (lg_sl av).length ≤ maxL)
    (body : ∀ (p : Program) (e : Env) (s : State) (m : MethodId) (below : List Frame) (meth : Method) (c : Code) (Q : State → Prop) (A : Nat → Prop) (ls : Array Slot), CallFix p m c cc maxL s av.toArray ws y.cls → sp_K g s → va_P g.1 vwCl w s.heap → va_D A w → (∀ q, s.heap.size ≤ q → A q) → lv_has ls maxL (lv_args 0 av) →
      (∀ (H : Heap) (locs : List Loc) (pc : Nat) (ls : Array Slot) (b : Bool) (u : S), decode cc pc = .ok (.ireturn, 1) → post b u → va_P g.1 vwCl (wS u) H → va_D A (wS u) → va_S A s.heap H locs → W p l e rm s m av.toArray below meth c H locs 0 0 Q (F0 m pc ls [.int (bI b)])) →
      W p l e rm s m av.toArray below meth c s.heap [] 0 0 Q (F0 m 0 ls [])) : sp_CB l g y ws rm av w post wS := by
  intro sz
  refine Met.ofW (cc := cc) (maxL := maxL) (ret := some .boolean) hy hw ?_
  intro p e s m args below meth c s₁ B hml hv
  obtain ⟨rfl, hsz, hP, hK, hD0⟩ := hv
  subst hsz
  have hD := hD0.self (sz := s.heap.size)
  rw [lg_entry_eq]
  refine body p e s m below meth c _ (va_A w s.heap.size) _ ⟨B.exec, B.bytes, hml, findClass_of_methodNamed B.named, atoms_spec (ws := ws) B.pre⟩ hK hP hD (fun q h => Or.inr h) (lv_entry av hlen) ?_
  intro H locs pc ls b u hd hp hP1 hD1 hS
  have hlocks := B.notSynchronized
  exact W.zret (v := bI b) B.exec B.bytes B.returns (by cases b <;> rfl) (fun t ht hW => ⟨⟨bI b, u, rfl, ⟨b, rfl, hp⟩, by rw [ht]; exact hP1, hD1⟩, hS.F ht⟩) hS.2.2 hd
set_option maxHeartbeats 4000000 in
theorem sp_CV.of {l : Launch} {g : sp_G} {y : MethodName} {ws ws' : List Cond} {rm : Room} {av : List Value} {w : va_W} {S : Type} {post : S → Prop} {wS : S → va_W} {cc : ByteArray} {maxL : Nat} (hy : plainName y.cls = true) (hw : ws = Cond.code y cc maxL none :: ws') (hlen : (lg_sl av).length ≤ maxL)
    (body : ∀ (p : Program) (e : Env) (s : State) (m : MethodId) (below : List Frame) (meth : Method) (c : Code) (Q : State → Prop) (A : Nat → Prop) (ls : Array Slot), CallFix p m c cc maxL s av.toArray ws y.cls → sp_K g s → va_P g.1 vwCl w s.heap → va_D A w → (∀ q, s.heap.size ≤ q → A q) → lv_has ls maxL (lv_args 0 av) →
      (∀ (H : Heap) (locs : List Loc) (pc : Nat) (ls : Array Slot) (u : S), decode cc pc = .ok (.return_, 1) → post u → va_P g.1 vwCl (wS u) H → va_D A (wS u) → va_S A s.heap H locs → W p l e rm s m av.toArray below meth c H locs 0 0 Q (F0 m pc ls [])) →
      W p l e rm s m av.toArray below meth c s.heap [] 0 0 Q (F0 m 0 ls [])) : sp_CV l g y ws rm av w post wS := by
  intro sz
  refine Met.ofW (cc := cc) (maxL := maxL) (ret := none) hy hw ?_
  intro p e s m args below meth c s₁ B hml hv
  obtain ⟨rfl, hsz, hP, hK, hD0⟩ := hv
  subst hsz
  have hD := hD0.self (sz := s.heap.size)
  rw [lg_entry_eq]
  refine body p e s m below meth c _ (va_A w s.heap.size) _ ⟨B.exec, B.bytes, hml, findClass_of_methodNamed B.named, atoms_spec (ws := ws) B.pre⟩ hK hP hD (fun q h => Or.inr h) (lv_entry av hlen) ?_
  intro H locs pc ls u hd hp hP1 hD1 hS
  have hlocks := B.notSynchronized
  exact W.vret B.exec B.bytes B.returns (fun t ht hW => ⟨⟨u, rfl, hp, by rw [ht]; exact hP1, hD1⟩, hS.F ht⟩) hS.2.2 hd
theorem sp_blind {g : sp_G} {sz : Nat} {w : va_W} {av : List Value} : FrameBlind (va_Pc av (sp_pre g sz w)) :=
  fun _ _ _ _ q => ⟨q.1, q.2.1, q.2.2.1, q.2.2.2.1.blind, q.2.2.2.2⟩
theorem sp_start {g : sp_G} {s : State} {H : Heap} {w : va_W} {av : List Value} {A : Nat → Prop} (hK : sp_K g s) (hP : va_P g.1 vwCl w H) (hD : va_D A w) : ∀ U : State, U.heap = H → s.WarmedH U.vm → va_Pc av (sp_pre g H.size w) av.toArray U :=
  fun U hU hW => ⟨rfl, by rw [hU], by rw [hU]; exact hP, hK.warm hW, hD.weaken fun _ _ _ _ => trivial⟩
section SPC
variable {p : Program} {l : Launch} {e : Env} {R : Room} {s : State} {m : MethodId} {args : Array Value} {below : List Frame} {meth : Method} {c : Code} {H : Heap} {locs : List Loc} {Q : State → Prop} {g : sp_G} {A : Nat → Prop}
variable {Ts ws ws' : List Cond} {cc bytes : ByteArray} {nL maxL index n pc ci q0 : Nat} {own C host : String} {y : MethodName} {ret : Option FieldType} {rm : Room} {b : Nat} {As rest st0 fs : List Value} {ls : Array Slot} {wc wr : va_W} {S : Type} {wS : S → va_W} {q : vw_C}
theorem sp_top {x y : Int32} (h : x = y) (k : W p l e R s m args below meth c H locs 0 0 Q (F0 m pc ls (.int y :: rest))) : W p l e R s m args below meth c H locs 0 0 Q (F0 m pc ls (.int x :: rest)) := h ▸ k
theorem sp_top_l {x y : Int64} (h : x = y) (k : W p l e R s m args below meth c H locs 0 0 Q (F0 m pc ls (.long y :: rest))) : W p l e R s m args below meth c H locs 0 0 Q (F0 m pc ls (.long x :: rest)) := h ▸ k
set_option maxHeartbeats 4000000 in
theorem sp_vi {post : Int32 → S → Prop} (SF : CallFix p m c cc nL s args Ts own) (hK : sp_K g s) (hA : ∀ q, s.heap.size ≤ q → A q) (hM : sp_CI l g y ws rm (.ref b :: As) wc post wS) (hG : GoodIn Ts (wsV own index C y ws)) (hw : ws = Cond.code y bytes maxL ret :: ws') (hrc : rm.cells = 0) (hrs : rm.slots = 0) (hd : y.cls = C ∧ y.cls ≠ "java/lang/invoke/MethodHandle" ∧ y.cls ≠ "java/lang/invoke/VarHandle" ∧ (parseMethodDescriptor y.desc).map (fun d => d.parameters.length) = some n) (hn : As.length = n) (hR : rm.frames + 1 ≤ R.frames ∧ 8 + (maxL + 11) + rm.locals ≤ R.locals)
    (ci q0 : Nat) {T0 : u_T} {N0 : Nat} (hc : vwCl[ci]? = some (C, T0, N0)) (he : wc[q0]? = some (b, .inr (ci, fs))) (hP : va_P g.1 vwCl (wc ++ wr) H) (hD : va_D A (wc ++ wr)) (hS : va_S A s.heap H locs) (hl : ls.size = nL) (hst : st0 = As.reverse ++ .ref b :: rest) (hcat : (rest.map fun v => v.category).sum ≤ 8) (hdg : decode cc pc = .ok (.invokevirtual index, 3))
    (kk : ∀ (r : Int32) (u : S) (H : Heap) (locs : List Loc), post r u → va_P g.1 vwCl (wS u ++ wr) H → va_D A (wS u ++ wr) → va_S A s.heap H locs → W p l e R s m args below meth c H locs 0 0 Q (F0 m (pc + 3) ls (.int r :: rest))) : W p l e R s m args below meth c H locs 0 0 Q (F0 m pc ls st0) := by
  subst hst
  have hF := sp_free hD hS hA
  refine va_calli (va_runV (As := As) (rest := rest) SF (hM H.size) (cwV n SF.2.2.2.2 hG hw hrc hrs hd hR) ⟨sp_blind, va_recv hK.1 (sp_P_l hP) hc he, sp_start hK (sp_P_l hP) (sp_D_l hD)⟩ rfl hn hl rfl (lv_room hcat) hdg ⟨Nat.zero_le _, Nat.zero_le _⟩) hS (fun q _ h => hF q h) hF (fun r u t H1 locs1 ht hvm hw1 hB hz1 hk1 hS1 => ?_)
  have hP1 := hB.1
  rw [ht] at hP1
  obtain ⟨hP2, hD2⟩ := sp_join hP hD hk1 hF hP1 hB.2
  exact kk r u H1 locs1 hw1 hP2 hD2 hS1
set_option maxHeartbeats 4000000 in
theorem sp_vv {post : S → Prop} (SF : CallFix p m c cc nL s args Ts own) (hK : sp_K g s) (hA : ∀ q, s.heap.size ≤ q → A q) (hM : sp_CV l g y ws rm (.ref b :: As) wc post wS) (hG : GoodIn Ts (wsV own index C y ws)) (hw : ws = Cond.code y bytes maxL ret :: ws') (hrc : rm.cells = 0) (hrs : rm.slots = 0) (hd : y.cls = C ∧ y.cls ≠ "java/lang/invoke/MethodHandle" ∧ y.cls ≠ "java/lang/invoke/VarHandle" ∧ (parseMethodDescriptor y.desc).map (fun d => d.parameters.length) = some n) (hn : As.length = n) (hR : rm.frames + 1 ≤ R.frames ∧ 8 + (maxL + 11) + rm.locals ≤ R.locals)
    (ci q0 : Nat) {T0 : u_T} {N0 : Nat} (hc : vwCl[ci]? = some (C, T0, N0)) (he : wc[q0]? = some (b, .inr (ci, fs))) (hP : va_P g.1 vwCl (wc ++ wr) H) (hD : va_D A (wc ++ wr)) (hS : va_S A s.heap H locs) (hl : ls.size = nL) (hst : st0 = As.reverse ++ .ref b :: rest) (hcat : (rest.map fun v => v.category).sum ≤ 8) (hdg : decode cc pc = .ok (.invokevirtual index, 3))
    (kk : ∀ (u : S) (H : Heap) (locs : List Loc), post u → va_P g.1 vwCl (wS u ++ wr) H → va_D A (wS u ++ wr) → va_S A s.heap H locs → W p l e R s m args below meth c H locs 0 0 Q (F0 m (pc + 3) ls rest)) : W p l e R s m args below meth c H locs 0 0 Q (F0 m pc ls st0) := by
  subst hst
  have hF := sp_free hD hS hA
  refine va_callv (va_runV (As := As) (rest := rest) SF (hM H.size) (cwV n SF.2.2.2.2 hG hw hrc hrs hd hR) ⟨sp_blind, va_recv hK.1 (sp_P_l hP) hc he, sp_start hK (sp_P_l hP) (sp_D_l hD)⟩ rfl hn hl rfl (lv_room hcat) hdg ⟨Nat.zero_le _, Nat.zero_le _⟩) hS (fun q _ h => hF q h) hF (fun u t H1 locs1 ht hvm hw1 hB hz1 hk1 hS1 => ?_)
  have hP1 := hB.1
  rw [ht] at hP1
  obtain ⟨hP2, hD2⟩ := sp_join hP hD hk1 hF hP1 hB.2
  exact kk u H1 locs1 hw1 hP2 hD2 hS1
set_option maxHeartbeats 4000000 in
theorem sp_si {post : Int32 → S → Prop} (SF : CallFix p m c cc nL s args Ts own) (hK : sp_K g s) (hA : ∀ q, s.heap.size ≤ q → A q) (hM : sp_CI l g y ws rm As wc post wS) (hG : GoodIn Ts (va_wsS own index y ws)) (hw : ws = Cond.code y bytes maxL ret :: ws') (hrc : rm.cells = 0) (hrs : rm.slots = 0) (hd : y.cls ≠ "java/lang/invoke/MethodHandle" ∧ y.cls ≠ "java/lang/invoke/VarHandle" ∧ (parseMethodDescriptor y.desc).map (fun d => d.parameters.length) = some n) (hn : As.length = n) (hR : rm.frames + 1 ≤ R.frames ∧ 8 + (maxL + 11) + rm.locals ≤ R.locals)
    (hP : va_P g.1 vwCl (wc ++ wr) H) (hD : va_D A (wc ++ wr)) (hS : va_S A s.heap H locs) (hl : ls.size = nL) (hst : st0 = As.reverse ++ rest) (hcat : (rest.map fun v => v.category).sum ≤ 8) (hdg : decode cc pc = .ok (.invokestatic index, 3))
    (kk : ∀ (r : Int32) (u : S) (H : Heap) (locs : List Loc), post r u → va_P g.1 vwCl (wS u ++ wr) H → va_D A (wS u ++ wr) → va_S A s.heap H locs → W p l e R s m args below meth c H locs 0 0 Q (F0 m (pc + 3) ls (.int r :: rest))) : W p l e R s m args below meth c H locs 0 0 Q (F0 m pc ls st0) := by
  subst hst
  have hF := sp_free hD hS hA
  refine va_calli (va_runS (As := As) (rest := rest) SF (hM H.size) (va_cwS n SF.2.2.2.2 hG hw hrc hrs hd hR) ⟨sp_blind, sp_start hK (sp_P_l hP) (sp_D_l hD)⟩ rfl hn hl rfl (lv_room hcat) hdg ⟨Nat.zero_le _, Nat.zero_le _⟩) hS (fun q _ h => hF q h) hF (fun r u t H1 locs1 ht hvm hw1 hB hz1 hk1 hS1 => ?_)
  have hP1 := hB.1
  rw [ht] at hP1
  obtain ⟨hP2, hD2⟩ := sp_join hP hD hk1 hF hP1 hB.2
  exact kk r u H1 locs1 hw1 hP2 hD2 hS1
set_option maxHeartbeats 4000000 in
theorem sp_sv {post : S → Prop} (SF : CallFix p m c cc nL s args Ts own) (hK : sp_K g s) (hA : ∀ q, s.heap.size ≤ q → A q) (hM : sp_CV l g y ws rm As wc post wS) (hG : GoodIn Ts (va_wsS own index y ws)) (hw : ws = Cond.code y bytes maxL ret :: ws') (hrc : rm.cells = 0) (hrs : rm.slots = 0) (hd : y.cls ≠ "java/lang/invoke/MethodHandle" ∧ y.cls ≠ "java/lang/invoke/VarHandle" ∧ (parseMethodDescriptor y.desc).map (fun d => d.parameters.length) = some n) (hn : As.length = n) (hR : rm.frames + 1 ≤ R.frames ∧ 8 + (maxL + 11) + rm.locals ≤ R.locals)
    (hP : va_P g.1 vwCl (wc ++ wr) H) (hD : va_D A (wc ++ wr)) (hS : va_S A s.heap H locs) (hl : ls.size = nL) (hst : st0 = As.reverse ++ rest) (hcat : (rest.map fun v => v.category).sum ≤ 8) (hdg : decode cc pc = .ok (.invokestatic index, 3))
    (kk : ∀ (u : S) (H : Heap) (locs : List Loc), post u → va_P g.1 vwCl (wS u ++ wr) H → va_D A (wS u ++ wr) → va_S A s.heap H locs → W p l e R s m args below meth c H locs 0 0 Q (F0 m (pc + 3) ls rest)) : W p l e R s m args below meth c H locs 0 0 Q (F0 m pc ls st0) := by
  subst hst
  have hF := sp_free hD hS hA
  refine va_callv (va_runS (As := As) (rest := rest) SF (hM H.size) (va_cwS n SF.2.2.2.2 hG hw hrc hrs hd hR) ⟨sp_blind, sp_start hK (sp_P_l hP) (sp_D_l hD)⟩ rfl hn hl rfl (lv_room hcat) hdg ⟨Nat.zero_le _, Nat.zero_le _⟩) hS (fun q _ h => hF q h) hF (fun u t H1 locs1 ht hvm hw1 hB hz1 hk1 hS1 => ?_)
  have hP1 := hB.1
  rw [ht] at hP1
  obtain ⟨hP2, hD2⟩ := sp_join hP hD hk1 hF hP1 hB.2
  exact kk u H1 locs1 hw1 hP2 hD2 hS1
set_option maxHeartbeats 4000000 in
/-- Tower calls StrikePlan.percentAt, a nest mate's -/
theorem sp_sn {post : Int32 → S → Prop} (SF : CallFix p m c cc nL s args Ts RX3) (hK : sp_K g s) (hA : ∀ q, s.heap.size ≤ q → A q) (hM : sp_CI l g yX4_percentAt ws rm As wc post wS) (hG : GoodIn Ts ws) (hw : ws = Cond.code yX4_percentAt bytes maxL ret :: ws') (hst0 : Cond.static yX4_percentAt ∈ Ts) (hin0 : Cond.initialized yX4_percentAt.cls ∈ Ts) (hrc : rm.cells = 0) (hrs : rm.slots = 0) (hd : yX4_percentAt.cls ≠ "java/lang/invoke/MethodHandle" ∧ yX4_percentAt.cls ≠ "java/lang/invoke/VarHandle" ∧ (parseMethodDescriptor yX4_percentAt.desc).map (fun d => d.parameters.length) = some n) (hn : As.length = n) (hR : rm.frames + 1 ≤ R.frames ∧ 8 + (maxL + 11) + rm.locals ≤ R.locals)
    (hP : va_P g.1 vwCl (wc ++ wr) H) (hD : va_D A (wc ++ wr)) (hS : va_S A s.heap H locs) (hl : ls.size = nL) (hst : st0 = As.reverse ++ rest) (hcat : (rest.map fun v => v.category).sum ≤ 8) (hdg : decode cc pc = .ok (.invokestatic 41, 3))
    (kk : ∀ (r : Int32) (u : S) (H : Heap) (locs : List Loc), post r u → va_P g.1 vwCl (wS u ++ wr) H → va_D A (wS u ++ wr) → va_S A s.heap H locs → W p l e R s m args below meth c H locs 0 0 Q (F0 m (pc + 3) ls (.int r :: rest))) : W p l e R s m args below meth c H locs 0 0 Q (F0 m pc ls st0) := by
  subst hst
  have hF := sp_free hD hS hA
  refine va_calli (va_runSN (As := As) (rest := rest) (host := "StrikePlan") SF (hM H.size) ⟨va_cnB n SF.2.2.2.2 hG hw hrc hrs hK.2 (SF.2.2.2.2 _ hin0) hd hR, SF.2.2.2.2 _ hst0, trivial⟩ ⟨sp_blind, sp_start hK (sp_P_l hP) (sp_D_l hD)⟩ rfl hn hl rfl (lv_room hcat) hdg ⟨Nat.zero_le _, Nat.zero_le _⟩) hS (fun q _ h => hF q h) hF (fun r u t H1 locs1 ht hvm hw1 hB hz1 hk1 hS1 => ?_)
  have hP1 := hB.1
  rw [ht] at hP1
  obtain ⟨hP2, hD2⟩ := sp_join hP hD hk1 hF hP1 hB.2
  exact kk r u H1 locs1 hw1 hP2 hD2 hS1
set_option maxHeartbeats 4000000 in
theorem sp_vi0 {post : Int32 → S → Prop} (SF : CallFix p m c cc nL s args Ts own) (hK : sp_K g s) (hA : ∀ q, s.heap.size ≤ q → A q) (hM : sp_CI l g y ws rm (.ref b :: As) wc post wS) (hG : GoodIn Ts (wsV own index C y ws)) (hw : ws = Cond.code y bytes maxL ret :: ws') (hrc : rm.cells = 0) (hrs : rm.slots = 0) (hd : y.cls = C ∧ y.cls ≠ "java/lang/invoke/MethodHandle" ∧ y.cls ≠ "java/lang/invoke/VarHandle" ∧ (parseMethodDescriptor y.desc).map (fun d => d.parameters.length) = some n) (hn : As.length = n) (hR : rm.frames + 1 ≤ R.frames ∧ 8 + (maxL + 11) + rm.locals ≤ R.locals)
    (ci q0 : Nat) {T0 : u_T} {N0 : Nat} (hc : vwCl[ci]? = some (C, T0, N0)) (he : wc[q0]? = some (b, .inr (ci, fs))) (hP : va_P g.1 vwCl wc H) (hD : va_D A wc) (hS : va_S A s.heap H locs) (hl : ls.size = nL) (hst : st0 = As.reverse ++ .ref b :: rest) (hcat : (rest.map fun v => v.category).sum ≤ 8) (hdg : decode cc pc = .ok (.invokevirtual index, 3))
    (kk : ∀ (r : Int32) (u : S) (H : Heap) (locs : List Loc), post r u → va_P g.1 vwCl (wS u) H → va_D A (wS u) → va_S A s.heap H locs → W p l e R s m args below meth c H locs 0 0 Q (F0 m (pc + 3) ls (.int r :: rest))) : W p l e R s m args below meth c H locs 0 0 Q (F0 m pc ls st0) :=
  sp_vi (wr := []) SF hK hA hM hG hw hrc hrs hd hn hR ci q0 hc he (by rw [List.append_nil]; exact hP) (by rw [List.append_nil]; exact hD) hS hl hst hcat hdg (fun r u H locs h1 h2 h3 h4 => kk r u H locs h1 (by rw [List.append_nil] at h2; exact h2) (by rw [List.append_nil] at h3; exact h3) h4)
set_option maxHeartbeats 4000000 in
theorem sp_vv0 {post : S → Prop} (SF : CallFix p m c cc nL s args Ts own) (hK : sp_K g s) (hA : ∀ q, s.heap.size ≤ q → A q) (hM : sp_CV l g y ws rm (.ref b :: As) wc post wS) (hG : GoodIn Ts (wsV own index C y ws)) (hw : ws = Cond.code y bytes maxL ret :: ws') (hrc : rm.cells = 0) (hrs : rm.slots = 0) (hd : y.cls = C ∧ y.cls ≠ "java/lang/invoke/MethodHandle" ∧ y.cls ≠ "java/lang/invoke/VarHandle" ∧ (parseMethodDescriptor y.desc).map (fun d => d.parameters.length) = some n) (hn : As.length = n) (hR : rm.frames + 1 ≤ R.frames ∧ 8 + (maxL + 11) + rm.locals ≤ R.locals)
    (ci q0 : Nat) {T0 : u_T} {N0 : Nat} (hc : vwCl[ci]? = some (C, T0, N0)) (he : wc[q0]? = some (b, .inr (ci, fs))) (hP : va_P g.1 vwCl wc H) (hD : va_D A wc) (hS : va_S A s.heap H locs) (hl : ls.size = nL) (hst : st0 = As.reverse ++ .ref b :: rest) (hcat : (rest.map fun v => v.category).sum ≤ 8) (hdg : decode cc pc = .ok (.invokevirtual index, 3))
    (kk : ∀ (u : S) (H : Heap) (locs : List Loc), post u → va_P g.1 vwCl (wS u) H → va_D A (wS u) → va_S A s.heap H locs → W p l e R s m args below meth c H locs 0 0 Q (F0 m (pc + 3) ls rest)) : W p l e R s m args below meth c H locs 0 0 Q (F0 m pc ls st0) :=
  sp_vv (wr := []) SF hK hA hM hG hw hrc hrs hd hn hR ci q0 hc he (by rw [List.append_nil]; exact hP) (by rw [List.append_nil]; exact hD) hS hl hst hcat hdg (fun u H locs h1 h2 h3 h4 => kk u H locs h1 (by rw [List.append_nil] at h2; exact h2) (by rw [List.append_nil] at h3; exact h3) h4)
end SPC
