/-! ===== constructors: what they need of the tables, contracts that make cells, calls ===== -/
def sp_KN (g : sp_G) (U : State) : Prop := sp_K g U ∧ (va_Nw (.methodLinkNest RX1 9 yX3_init "StrikePlan") U ∧ va_Nw (.methodLinkNest RX2 24 yX3_init "StrikePlan") U ∧ va_Nw (.methodLinkNest RX4 9 yX3_init "StrikePlan") U ∧ va_Nw (.methodLinkNest RX4 28 yX0_init "StrikePlan") U ∧ va_Nw (.methodLinkNest RX4 43 yX1_init "StrikePlan") U) ∧ va_AO RX1 U ∧ va_AO RX3 U
theorem sp_KN.blind {g : sp_G} {U : State} {f : JFrame} {mk : MethodId} {a : Array Value} (h : sp_KN g U) : sp_KN g (U.calling f mk a) := by
  obtain ⟨h0, ⟨h1, h2, h3, h4, h5⟩, h6, h7⟩ := h
  exact ⟨h0.blind, ⟨va_Nw.same rfl rfl h1, va_Nw.same rfl rfl h2, va_Nw.same rfl rfl h3, va_Nw.same rfl rfl h4, va_Nw.same rfl rfl h5⟩, va_AO.moved (u := U) (U := U.calling f mk a) (Vm.Alike.refl U.vm) h6, va_AO.moved (u := U) (U := U.calling f mk a) (Vm.Alike.refl U.vm) h7⟩
theorem sp_KN.warm {g : sp_G} {s U : State} (hW : s.WarmedH U.vm) (h : sp_KN g s) : sp_KN g U := by
  obtain ⟨h0, ⟨h1, h2, h3, h4, h5⟩, h6, h7⟩ := h
  exact ⟨h0.warm hW, ⟨va_Nw.warmM hW h1, va_Nw.warmM hW h2, va_Nw.warmM hW h3, va_Nw.warmM hW h4, va_Nw.warmM hW h5⟩, va_AO.moved hW.alike h6, va_AO.moved hW.alike h7⟩
def sp_preN (g : sp_G) (sz : Nat) (w : va_W) (U : State) : Prop := U.heap.size = sz ∧ va_P g.1 vwCl w U.heap ∧ sp_KN g U ∧ va_D (fun _ => True) w
def sp_CM (l : Launch) (g : sp_G) (y : MethodName) (ws : List Cond) (rm : Room) (mc ms : Nat) (av : List Value) (w : va_W) {S : Type} (post : S → Prop) (wS : S → va_W) : Prop :=
  ∀ sz : Nat, Met l y ws rm (va_Pc av (sp_preN g sz w)) (va_Qv post (sp_at g (va_A w sz) wS) (va_A w sz)) mc ms (va_A w sz)
set_option maxHeartbeats 4000000 in
theorem sp_CM.of {l : Launch} {g : sp_G} {y : MethodName} {ws ws' : List Cond} {rm : Room} {mc ms : Nat} {av : List Value} {w : va_W} {S : Type} {post : S → Prop} {wS : S → va_W} {cc : ByteArray} {maxL : Nat} (hy : plainName y.cls = true) (hw : ws = Cond.code y cc maxL none :: ws') (hlen : (lg_sl av).length ≤ maxL)
    (body : ∀ (p : Program) (e : Env) (s : State) (m : MethodId) (below : List Frame) (meth : Method) (c : Code) (Q : State → Prop) (A : Nat → Prop) (ls : Array Slot), CallFix p m c cc maxL s av.toArray ws y.cls → meth.name = y.name → sp_KN g s → va_P g.1 vwCl w s.heap → va_D A w → (∀ q, s.heap.size ≤ q → A q) → lv_has ls maxL (lv_args 0 av) →
      (∀ (H : Heap) (locs : List Loc) (pc : Nat) (ls : Array Slot) (u : S), decode cc pc = .ok (.return_, 1) → post u → va_P g.1 vwCl (wS u) H → va_D A (wS u) → va_S A s.heap H locs → W p l e rm s m av.toArray below meth c H locs mc ms Q (F0 m pc ls [])) →
      W p l e rm s m av.toArray below meth c s.heap [] 0 0 Q (F0 m 0 ls [])) : sp_CM l g y ws rm mc ms av w post wS := by
  intro sz
  refine Met.ofW (cc := cc) (maxL := maxL) (ret := none) hy hw ?_
  intro p e s m args below meth c s₁ B hml hv
  obtain ⟨rfl, hsz, hP, hK, hD0⟩ := hv
  subst hsz
  have hD := hD0.self (sz := s.heap.size)
  rw [lg_entry_eq]
  refine body p e s m below meth c _ (va_A w s.heap.size) _ ⟨B.exec, B.bytes, hml, findClass_of_methodNamed B.named, atoms_spec (ws := ws) B.pre⟩ (name_of_methodNamed B.named B.method).1 hK hP hD (fun q h => Or.inr h) (lv_entry av hlen) ?_
  intro H locs pc ls u hd hp hP1 hD1 hS
  have hlocks := B.notSynchronized
  exact W.vret B.exec B.bytes B.returns (fun t ht hW => ⟨⟨u, rfl, hp, by rw [ht]; exact hP1, hD1⟩, hS.F ht⟩) hS.2.2 hd
theorem sp_blindN {g : sp_G} {sz : Nat} {w : va_W} {av : List Value} : FrameBlind (va_Pc av (sp_preN g sz w)) :=
  fun _ _ _ _ q => ⟨q.1, q.2.1, q.2.2.1, q.2.2.2.1.blind, q.2.2.2.2⟩
theorem sp_startN {g : sp_G} {s : State} {H : Heap} {w : va_W} {av : List Value} {A : Nat → Prop} (hK : sp_KN g s) (hP : va_P g.1 vwCl w H) (hD : va_D A w) : ∀ U : State, U.heap = H → s.WarmedH U.vm → va_Pc av (sp_preN g H.size w) av.toArray U :=
  fun U hU hW => ⟨rfl, by rw [hU], by rw [hU]; exact hP, hK.warm hW, hD.weaken fun _ _ _ _ => trivial⟩
section SPM
variable {p : Program} {l : Launch} {e : Env} {R : Room} {s : State} {m : MethodId} {args : Array Value} {below : List Frame} {meth : Method} {c : Code} {H : Heap} {locs : List Loc} {Q : State → Prop} {g : sp_G} {A : Nat → Prop} {cells slots mc ms : Nat}
variable {Ts ws ws' : List Cond} {cc bytes : ByteArray} {nL maxL index pc : Nat} {own host : String} {y : MethodName} {rm : Room} {b : Nat} {rest : List Value} {ls : Array Slot} {wc wr w0 : va_W} {S : Type} {wS : S → va_W} {H0 : Heap}
set_option maxHeartbeats 4000000 in
theorem sp_vc {post : S → Prop} (SF : CallFix p m c cc nL s args Ts own) (hK : sp_KN g s) (hA : ∀ q, s.heap.size ≤ q → A q) (hM : sp_CM l g y ws rm mc ms [.ref b] wc post wS) (cw : CallB R s args own index y bytes maxL none ws rm mc ms 0 ∧ y.name = "<init>" ∧ (Cond.instanceMethod y).before args s = true)
    (hP : va_P g.1 vwCl (wc ++ wr) H) (hD : va_D A (wc ++ wr)) (hS : va_S A s.heap H locs) (hl : ls.size = nL) (hcat : (rest.map fun v => v.category).sum ≤ 8) (hdg : decode cc pc = .ok (.invokespecial index, 3)) (hf : cells + mc ≤ R.cells ∧ slots + ms ≤ R.slots)
    (kk : ∀ (u : S) (H : Heap) (locs : List Loc), post u → va_P g.1 vwCl (wS u ++ wr) H → va_D A (wS u ++ wr) → va_S A s.heap H locs → W p l e R s m args below meth c H locs (cells + mc) (slots + ms) Q (F0 m (pc + 3) ls rest)) : W p l e R s m args below meth c H locs cells slots Q (F0 m pc ls (.ref b :: rest)) := by
  have hF := sp_free hD hS hA
  refine va_callv (va_runI (As := []) (rest := rest) SF (hM H.size) cw ⟨sp_blindN, sp_startN hK (sp_P_l hP) (sp_D_l hD)⟩ rfl rfl hl rfl (lv_room hcat) hdg hf) hS (fun q _ h => hF q h) hF (fun u t H1 locs1 ht hvm hw1 hB hz1 hk1 hS1 => ?_)
  have hP1 := hB.1
  rw [ht] at hP1
  obtain ⟨hP2, hD2⟩ := sp_join hP hD hk1 hF hP1 hB.2
  exact kk u H1 locs1 hw1 hP2 hD2 hS1
set_option maxHeartbeats 4000000 in
theorem sp_vcN {post : S → Prop} (SF : CallFix p m c cc nL s args Ts own) (hK : sp_KN g s) (hA : ∀ q, s.heap.size ≤ q → A q) (hM : sp_CM l g y ws rm mc ms [.ref b] wc post wS) (cw : va_CN R s args own index y host bytes maxL none ws rm mc ms 0 ∧ y.name = "<init>" ∧ (Cond.instanceMethod y).before args s = true)
    (hP : va_P g.1 vwCl (wc ++ wr) H) (hD : va_D A (wc ++ wr)) (hS : va_S A s.heap H locs) (hl : ls.size = nL) (hcat : (rest.map fun v => v.category).sum ≤ 8) (hdg : decode cc pc = .ok (.invokespecial index, 3)) (hf : cells + mc ≤ R.cells ∧ slots + ms ≤ R.slots)
    (kk : ∀ (u : S) (H : Heap) (locs : List Loc), post u → va_P g.1 vwCl (wS u ++ wr) H → va_D A (wS u ++ wr) → va_S A s.heap H locs → W p l e R s m args below meth c H locs (cells + mc) (slots + ms) Q (F0 m (pc + 3) ls rest)) : W p l e R s m args below meth c H locs cells slots Q (F0 m pc ls (.ref b :: rest)) := by
  have hF := sp_free hD hS hA
  refine va_callv (va_runIN (As := []) (rest := rest) SF (hM H.size) cw ⟨sp_blindN, sp_startN hK (sp_P_l hP) (sp_D_l hD)⟩ rfl rfl hl rfl (lv_room hcat) hdg hf) hS (fun q _ h => hF q h) hF (fun u t H1 locs1 ht hvm hw1 hB hz1 hk1 hS1 => ?_)
  have hP1 := hB.1
  rw [ht] at hP1
  obtain ⟨hP2, hD2⟩ := sp_join hP hD hk1 hF hP1 hB.2
  exact kk u H1 locs1 hw1 hP2 hD2 hS1
theorem sp_newi (hx : p.tables.exec = Jvm.exec) (hb : c.code = cc) (harr : (Cond.arrayClass .int).before args s = true) (hK : sp_K g s) (hP : va_P g.1 vwCl w0 H) (hD : va_D A w0) (hS : va_S A H0 H locs) (hA : ∀ q, H0.size ≤ q → A q)
    {n : Int32} {N' : Nat} (hn : ¬ n < 0) (hN : n.toNatClampNeg = N') (hbytes : N' * componentBytes .int ≤ 536870912) (hcells : cells + 1 ≤ R.cells) (hslots : slots + N' ≤ R.slots) (hdg : decode cc pc = .ok (.newarray .int, 2))
    (kk : ∀ (q : Nat) (H1 : Heap), va_P g.1 vwCl (w0 ++ [(q, .inl (g.2.1, N', .inl (fun _ => 0)))]) H1 → va_D A (w0 ++ [(q, .inl (g.2.1, N', .inl (fun _ => 0)))]) → va_S A H0 H1 locs → W p l e R s m args below meth c H1 locs (cells + 1) (slots + N') Q (F0 m (pc + 2) ls (.ref q :: rest))) : W p l e R s m args below meth c H locs cells slots Q (F0 m pc ls (.int n :: rest)) := by
  refine va_newa (atype := .int) (ty := .int) hx hb harr rfl hK.1 hP hD hS hA (a0 := (N', .inl (fun _ => 0))) (fun cA => rfl) hn hN hbytes hcells hslots hdg (fun q cA H1 hK1 hP hD hS => ?_)
  have e : cA = g.2.1 := Option.some.inj ((hK1.2 5 (cA, .int) rfl).2.symm.trans (hK.1.2 0 (g.2.1, .int) rfl).2)
  subst e
  exact kk q H1 hP hD hS
theorem sp_newl (hx : p.tables.exec = Jvm.exec) (hb : c.code = cc) (harr : (Cond.arrayClass .long).before args s = true) (hK : sp_K g s) (hP : va_P g.1 vwCl w0 H) (hD : va_D A w0) (hS : va_S A H0 H locs) (hA : ∀ q, H0.size ≤ q → A q)
    {n : Int32} {N' : Nat} (hn : ¬ n < 0) (hN : n.toNatClampNeg = N') (hbytes : N' * componentBytes .long ≤ 536870912) (hcells : cells + 1 ≤ R.cells) (hslots : slots + N' ≤ R.slots) (hdg : decode cc pc = .ok (.newarray .long, 2))
    (kk : ∀ (q : Nat) (H1 : Heap), va_P g.1 vwCl (w0 ++ [(q, .inl (g.2.2.1, N', .inr (.inl (fun _ => 0))))]) H1 → va_D A (w0 ++ [(q, .inl (g.2.2.1, N', .inr (.inl (fun _ => 0))))]) → va_S A H0 H1 locs → W p l e R s m args below meth c H1 locs (cells + 1) (slots + N') Q (F0 m (pc + 2) ls (.ref q :: rest))) : W p l e R s m args below meth c H locs cells slots Q (F0 m pc ls (.int n :: rest)) := by
  refine va_newa (atype := .long) (ty := .long) hx hb harr rfl hK.1 hP hD hS hA (a0 := (N', .inr (.inl (fun _ => 0)))) (fun cA => rfl) hn hN hbytes hcells hslots hdg (fun q cA H1 hK1 hP hD hS => ?_)
  have e : cA = g.2.2.1 := Option.some.inj ((hK1.2 5 (cA, .long) rfl).2.symm.trans (hK.1.2 1 (g.2.2.1, .long) rfl).2)
  subst e
  exact kk q H1 hP hD hS
theorem sp_newz (hx : p.tables.exec = Jvm.exec) (hb : c.code = cc) (harr : (Cond.arrayClass .boolean).before args s = true) (hK : sp_K g s) (hP : va_P g.1 vwCl w0 H) (hD : va_D A w0) (hS : va_S A H0 H locs) (hA : ∀ q, H0.size ≤ q → A q)
    {n : Int32} {N' : Nat} (hn : ¬ n < 0) (hN : n.toNatClampNeg = N') (hbytes : N' * componentBytes .boolean ≤ 536870912) (hcells : cells + 1 ≤ R.cells) (hslots : slots + N' ≤ R.slots) (hdg : decode cc pc = .ok (.newarray .boolean, 2))
    (kk : ∀ (q : Nat) (H1 : Heap), va_P g.1 vwCl (w0 ++ [(q, .inl (g.2.2.2.1, N', .inl (fun _ => 0)))]) H1 → va_D A (w0 ++ [(q, .inl (g.2.2.2.1, N', .inl (fun _ => 0)))]) → va_S A H0 H1 locs → W p l e R s m args below meth c H1 locs (cells + 1) (slots + N') Q (F0 m (pc + 2) ls (.ref q :: rest))) : W p l e R s m args below meth c H locs cells slots Q (F0 m pc ls (.int n :: rest)) := by
  refine va_newa (atype := .boolean) (ty := .boolean) hx hb harr rfl hK.1 hP hD hS hA (a0 := (N', .inl (fun _ => 0))) (fun cA => rfl) hn hN hbytes hcells hslots hdg (fun q cA H1 hK1 hP hD hS => ?_)
  have e : cA = g.2.2.2.1 := Option.some.inj ((hK1.2 5 (cA, .boolean) rfl).2.symm.trans (hK.1.2 2 (g.2.2.2.1, .boolean) rfl).2)
  subst e
  exact kk q H1 hP hD hS
theorem sp_newq1 (hx : p.tables.exec = Jvm.exec) (hb : c.code = cc) (hown : s.vm.findClass own = some m.cls) (hcl : (Cond.classLink own index RX1).before args s = true) (hK : sp_KN g s) (hP : va_P g.1 vwCl w0 H) (hD : va_D A w0) (hS : va_S A H0 H locs) (hA : ∀ q, H0.size ≤ q → A q)
    {n : Int32} {N' : Nat} (hn : ¬ n < 0) (hN : n.toNatClampNeg = N') (hbytes : N' * 4 ≤ 536870912) (hcells : cells + 1 ≤ R.cells) (hslots : slots + N' ≤ R.slots) (hdg : decode cc pc = .ok (.anewarray index, 3))
    (kk : ∀ (q : Nat) (H1 : Heap), va_P g.1 vwCl (w0 ++ [(q, .inl (g.2.2.2.2.1, N', .inr (.inr (.inr (.inr (fun _ => none))))))]) H1 → va_D A (w0 ++ [(q, .inl (g.2.2.2.2.1, N', .inr (.inr (.inr (.inr (fun _ => none))))))]) → va_S A H0 H1 locs → W p l e R s m args below meth c H1 locs (cells + 1) (slots + N') Q (F0 m (pc + 3) ls (.ref q :: rest))) : W p l e R s m args below meth c H locs cells slots Q (F0 m pc ls (.int n :: rest)) := by
  refine va_newq hx hb hown hcl hK.2.2.1 hK.1.1 hP hD hS hA hn hN hbytes hcells hslots hdg (fun q cA H1 hK1 hP hD hS => ?_)
  obtain ⟨_, _, _, _, _, h1⟩ := (hK1.2 5 (cA, .object RX1) rfl).2
  obtain ⟨_, _, _, _, _, h2⟩ := (hK.1.1.2 3 (g.2.2.2.2.1, .object RX1) rfl).2
  have e : cA = g.2.2.2.2.1 := Option.some.inj (h1.symm.trans h2)
  subst e
  exact kk q H1 hP hD hS
theorem sp_newq3 (hx : p.tables.exec = Jvm.exec) (hb : c.code = cc) (hown : s.vm.findClass own = some m.cls) (hcl : (Cond.classLink own index RX3).before args s = true) (hK : sp_KN g s) (hP : va_P g.1 vwCl w0 H) (hD : va_D A w0) (hS : va_S A H0 H locs) (hA : ∀ q, H0.size ≤ q → A q)
    {n : Int32} {N' : Nat} (hn : ¬ n < 0) (hN : n.toNatClampNeg = N') (hbytes : N' * 4 ≤ 536870912) (hcells : cells + 1 ≤ R.cells) (hslots : slots + N' ≤ R.slots) (hdg : decode cc pc = .ok (.anewarray index, 3))
    (kk : ∀ (q : Nat) (H1 : Heap), va_P g.1 vwCl (w0 ++ [(q, .inl (g.2.2.2.2.2, N', .inr (.inr (.inr (.inr (fun _ => none))))))]) H1 → va_D A (w0 ++ [(q, .inl (g.2.2.2.2.2, N', .inr (.inr (.inr (.inr (fun _ => none))))))]) → va_S A H0 H1 locs → W p l e R s m args below meth c H1 locs (cells + 1) (slots + N') Q (F0 m (pc + 3) ls (.ref q :: rest))) : W p l e R s m args below meth c H locs cells slots Q (F0 m pc ls (.int n :: rest)) := by
  refine va_newq hx hb hown hcl hK.2.2.2 hK.1.1 hP hD hS hA hn hN hbytes hcells hslots hdg (fun q cA H1 hK1 hP hD hS => ?_)
  obtain ⟨_, _, _, _, _, h1⟩ := (hK1.2 5 (cA, .object RX3) rfl).2
  obtain ⟨_, _, _, _, _, h2⟩ := (hK.1.1.2 4 (g.2.2.2.2.2, .object RX3) rfl).2
  have e : cA = g.2.2.2.2.2 := Option.some.inj (h1.symm.trans h2)
  subst e
  exact kk q H1 hP hD hS
end SPM
/-- an array of references is known by its places -/
theorem sp_ra_ext {cA : ClassId} {n : Nat} {f f' : Nat → Option Nat} (h : ∀ j, j < n → f j = f' j) : vp_cell cA (n, .inr (.inr (.inr (.inr f)))) = vp_cell cA (n, .inr (.inr (.inr (.inr f')))) := by
  rw [vp_cell_q, vp_cell_q]
  unfold arrV
  congr 1
  congr 1
  funext j
  show va_rf (f j.val) = va_rf (f' j.val)
  rw [h j.val j.isLt]
theorem sp_P_ra {D : va_G} {cl : List vw_C} {q : Nat} {cA : ClassId} {n : Nat} {f f' : Nat → Option Nat} {w : va_W} {H : Heap} (h : ∀ j, j < n → f j = f' j) (hP : va_P D cl ([(q, .inl (cA, n, .inr (.inr (.inr (.inr f)))))] ++ w) H) : va_P D cl ([(q, .inl (cA, n, .inr (.inr (.inr (.inr f')))))] ++ w) H := by
  refine sp_P_iff.mpr fun x hx => ?_
  rcases List.mem_append.mp hx with h1 | h1
  · rw [List.mem_singleton] at h1
    subst h1
    have := sp_P_iff.mp hP _ (List.mem_append_left _ (List.mem_singleton.mpr rfl))
    show H[q]? = some (vp_cell _ _)
    rw [← sp_ra_ext h]
    exact this
  · exact sp_P_iff.mp hP x (List.mem_append_right _ h1)
theorem sp_D_ra {A : Nat → Prop} {q : Nat} {x y : va_E} {w : va_W} (hD : va_D A ([(q, x)] ++ w)) : va_D A ([(q, y)] ++ w) := by
  have h := sp_D_iff.mp hD
  refine sp_D_iff.mpr ⟨?_, fun z hz => ?_⟩
  · simpa using h.1
  · rcases List.mem_append.mp hz with h1 | h1
    · rw [List.mem_singleton] at h1
      subst h1
      exact h.2 (q, x) (List.mem_append_left _ (List.mem_singleton.mpr rfl))
    · exact h.2 z (List.mem_append_right _ h1)
theorem rgW_cong2 (g : sp_G) {ad ad' : Nat → sp_A} {cs cs' : Nat → sp_U} (n : Nat) (ha : ∀ j, j < n → ad j = ad' j) (h : ∀ j, j < n → cs j = cs' j) : rgW g ad cs n = rgW g ad' cs' n := by
  induction n with
  | zero => rfl
  | succ n ih => simp only [rgW]; rw [h n (by omega), ha n (by omega), ih (fun j hj => ha j (by omega)) (fun j hj => h j (by omega))]
