/-! ===== the law: calls at its own room, the loop ===== -/
def R_law : String := "StrikePlanLaw"
def lw_P (b : Addr) (xs : List Int32) (args : Array Value) (s : State) : Prop := args = #[.ref b] ∧ s.IntsAt b xs ∧ xs.length ≤ 1536 ∧ (Jvm.Cond.and given_1 narrow_1).before args s = true
def lw_Q (_ : Array Value) (s : State) (o : Outcome) (t : State) : Prop := o = .returned (some (.int 1)) ∧ Framed s o t [] 600000 7302250
def lw_Z (below : List Frame) (a : Array Value) (s : State) : State → Prop := fun t => ∃ o, t.status = .running ∧ Ended t below o ∧ lw_Q a s o t
/-- the law's own end, with 1 on the stack, nothing written that was there before, its room as the claim has it -/
theorem lw_ret {p : Program} {l : Launch} {e : Env} {s : State} {m : MethodId} {below : List Frame} {meth : Method} {c : Code} {b : Nat} (hx : p.tables.exec = Jvm.exec) (hb : c.code = code) (hr : meth.sig.returnType = ret) (hlocks : meth.locks = false) {pc : Nat} {H : Heap} {ls : Array Slot} (hdg : decode code pc = .ok (.ireturn, 1)) : W p l e room_1 s m #[Value.ref b] below meth c H [] 600000 7302250 (lw_Z below #[Value.ref b] s) (F0 m pc ls [.int 1]) := by
  intro T hT X
  obtain ⟨fs, hret, hrun, hended, hW, hframe⟩ := X.leave (v := some (.int 1)) (hlocks := hlocks) (fun h => by rw [hr] at h; cases h)
  have hmeth' : T.vm.method? m = some meth := X.method'
  refine ⟨T.setFrames fs, ?_, .returned (some (.int 1)), hrun, hended, rfl, ⟨_, rfl⟩, hW, hframe⟩
  jvm_step X.here [X.here.top, hx, hb, hdg, hmeth', hr, ret, narrow_b1]
  (try refine ⟨rfl, ?_⟩); (try refine ⟨rfl, ?_⟩)
  first | (intro acts; rw [hret _ acts rfl rfl rfl]) | rw [hret _ _ rfl rfl rfl]
  exact Steps.refl _
/-- what holds at the law's entry: the machine, the code, the tables' words (any of lw_tbl by 'hts w (by decide +kernel)'), the script of L ints xs at the cell b, what the Statement gives of the start (any of its parts by flat_of_before) -/
def lw_At (p : Program) (s : State) (m : MethodId) (meth : Method) (c : Code) (b L : Nat) (xs : Nat → Int32) : Prop :=
  p.tables.exec = Jvm.exec ∧ c.code = code ∧ meth.sig.returnType = ret ∧ c.maxLocals = 4 ∧ s.vm.findClass R_law = some m.cls ∧ (∀ w ∈ lw_tbl, w.before #[Value.ref b] s = true) ∧ va_X b L xs s s.heap ∧ b < s.heap.size ∧ meth.locks = false ∧ (Jvm.Cond.and given_1 narrow_1).before #[Value.ref b] s = true
section SPL
variable {p : Program} {l : Launch} {e : Env} {R : Room} {s : State} {m : MethodId} {args : Array Value} {below : List Frame} {meth : Method} {c : Code} {H : Heap} {locs : List Loc} {Q : State → Prop} {g : sp_G} {A : Nat → Prop} {cells slots : Nat}
variable {Ts ws ws' : List Cond} {cc bytes : ByteArray} {nL maxL index n pc : Nat} {own C : String} {y : MethodName} {ret : Option FieldType} {rm : Room} {b : Nat} {As rest st0 fs : List Value} {ls : Array Slot} {wc wr : va_W} {S : Type} {wS : S → va_W}
theorem sp_topL {x y : Int32} (h : x = y) (k : W p l e R s m args below meth c H locs cells slots Q (F0 m pc ls (.int y :: rest))) : W p l e R s m args below meth c H locs cells slots Q (F0 m pc ls (.int x :: rest)) := h ▸ k
set_option maxHeartbeats 4000000 in
theorem sp_viL {post : Int32 → S → Prop} (SF : CallFix p m c cc nL s args Ts own) (hK : sp_K g s) (hA : ∀ q, s.heap.size ≤ q → A q) (hM : sp_CI l g y ws rm (.ref b :: As) wc post wS) (hG : GoodIn Ts (wsV own index C y ws)) (hw : ws = Cond.code y bytes maxL ret :: ws') (hrc : rm.cells = 0) (hrs : rm.slots = 0) (hd : y.cls = C ∧ y.cls ≠ "java/lang/invoke/MethodHandle" ∧ y.cls ≠ "java/lang/invoke/VarHandle" ∧ (parseMethodDescriptor y.desc).map (fun d => d.parameters.length) = some n) (hn : As.length = n) (hR : rm.frames + 1 ≤ R.frames ∧ 8 + (maxL + 11) + rm.locals ≤ R.locals)
    (ci q0 : Nat) {T0 : u_T} {N0 : Nat} (hc : vwCl[ci]? = some (C, T0, N0)) (he : wc[q0]? = some (b, .inr (ci, fs))) (hP : va_P g.1 vwCl (wc ++ wr) H) (hD : va_D A (wc ++ wr)) (hS : va_S A s.heap H locs) (hl : ls.size = nL) (hst : st0 = As.reverse ++ .ref b :: rest) (hcat : (rest.map fun v => v.category).sum ≤ 8) (hdg : decode cc pc = .ok (.invokevirtual index, 3)) (hf : cells + 0 ≤ R.cells ∧ slots + 0 ≤ R.slots)
    (kk : ∀ (r : Int32) (u : S) (H : Heap) (locs : List Loc), post r u → va_P g.1 vwCl (wS u ++ wr) H → va_D A (wS u ++ wr) → va_S A s.heap H locs → W p l e R s m args below meth c H locs cells slots Q (F0 m (pc + 3) ls (.int r :: rest))) : W p l e R s m args below meth c H locs cells slots Q (F0 m pc ls st0) := by
  subst hst
  have hF := sp_free hD hS hA
  refine va_calli (va_runV (As := As) (rest := rest) SF (hM H.size) (cwV n SF.2.2.2.2 hG hw hrc hrs hd hR) ⟨sp_blind, va_recv hK.1 (sp_P_l hP) hc he, sp_start hK (sp_P_l hP) (sp_D_l hD)⟩ rfl hn hl rfl (lv_room hcat) hdg hf) hS (fun q _ h => hF q h) hF (fun r u t H1 locs1 ht hvm hw1 hB hz1 hk1 hS1 => ?_)
  have hP1 := hB.1
  rw [ht] at hP1
  obtain ⟨hP2, hD2⟩ := sp_join hP hD hk1 hF hP1 hB.2
  exact kk r u H1 locs1 hw1 hP2 hD2 hS1
set_option maxHeartbeats 4000000 in
theorem sp_viXL {t1 t2 : Nat} {post : Int32 → S → Prop} (SF : CallFix p m c cc nL s args Ts own) (hK : sp_K g s) (hZ : sp_cst t1 t2 A s s.heap) (hA : ∀ q, s.heap.size ≤ q → A q) (hM : sp_CIX l g t1 t2 y ws rm (.ref b :: As) wc post wS) (hG : GoodIn Ts (wsV own index C y ws)) (hw : ws = Cond.code y bytes maxL ret :: ws') (hrc : rm.cells = 0) (hrs : rm.slots = 0) (hd : y.cls = C ∧ y.cls ≠ "java/lang/invoke/MethodHandle" ∧ y.cls ≠ "java/lang/invoke/VarHandle" ∧ (parseMethodDescriptor y.desc).map (fun d => d.parameters.length) = some n) (hn : As.length = n) (hR : rm.frames + 1 ≤ R.frames ∧ 8 + (maxL + 11) + rm.locals ≤ R.locals)
    (ci q0 : Nat) {T0 : u_T} {N0 : Nat} (hc : vwCl[ci]? = some (C, T0, N0)) (he : wc[q0]? = some (b, .inr (ci, fs))) (hP : va_P g.1 vwCl (wc ++ wr) H) (hD : va_D A (wc ++ wr)) (hS : va_S A s.heap H locs) (hl : ls.size = nL) (hst : st0 = As.reverse ++ .ref b :: rest) (hcat : (rest.map fun v => v.category).sum ≤ 8) (hdg : decode cc pc = .ok (.invokevirtual index, 3)) (hf : cells + 0 ≤ R.cells ∧ slots + 0 ≤ R.slots)
    (kk : ∀ (r : Int32) (u : S) (H : Heap) (locs : List Loc), post r u → va_P g.1 vwCl (wS u ++ wr) H → va_D A (wS u ++ wr) → va_S A s.heap H locs → W p l e R s m args below meth c H locs cells slots Q (F0 m (pc + 3) ls (.int r :: rest))) : W p l e R s m args below meth c H locs cells slots Q (F0 m pc ls st0) := by
  subst hst
  have hF := sp_free hD hS hA
  have hstart : ∀ U : State, U.heap = H → s.WarmedH U.vm → va_Pc (.ref b :: As) (sp_preX g t1 t2 H.size wc) (.ref b :: As : List Value).toArray U := fun U hU hW =>
    have h0 := sp_start (av := .ref b :: As) hK (sp_P_l hP) (sp_D_l hD) U hU hW
    ⟨rfl, h0.2, by rw [hU]; exact ((hZ.moved hW.alike).kept hS.2.1).narrow hF⟩
  refine va_calli (va_runV (As := As) (rest := rest) SF (hM H.size) (cwV n SF.2.2.2.2 hG hw hrc hrs hd hR) ⟨sp_blindX, va_recv hK.1 (sp_P_l hP) hc he, hstart⟩ rfl hn hl rfl (lv_room hcat) hdg hf) hS (fun q _ h => hF q h) hF (fun r u t H1 locs1 ht hvm hw1 hB hz1 hk1 hS1 => ?_)
  have hP1 := hB.1
  rw [ht] at hP1
  obtain ⟨hP2, hD2⟩ := sp_join hP hD hk1 hF hP1 hB.2
  exact kk r u H1 locs1 hw1 hP2 hD2 hS1
end SPL
theorem sp_lwc {i L : Nat} (hi : i ≤ 2000) (hL : L ≤ 1536) : nI L - nI 3 < nI i ↔ L < i + 3 := by
  rcases Nat.lt_or_ge L 3 with h | h
  · have h3 : ∀ z : Int32, z.toInt < 0 → z < nI i := fun z hz => Int32.lt_iff_toInt_lt.mpr (by rw [nI_toInt (by omega)]; omega)
    refine ⟨fun _ => by omega, fun _ => h3 _ ?_⟩
    rcases (show L = 0 ∨ L = 1 ∨ L = 2 by omega) with rfl | rfl | rfl <;> decide
  · rw [sp_sub h, nI_ltI (by omega) (by omega)]; omega
set_option maxHeartbeats 8000000 in
set_option maxRecDepth 100000 in
/-- the loop: at its head both sides hold one system -/
theorem law_loop {p : Program} {l : Launch} {e : Env} {s : State} {m : MethodId} {below : List Frame} {meth : Method} {c : Code} {g : sp_G} {b L : Nat} {xs : Nat → Int32} {t1 t2 : Nat} (hL : L ≤ 1536) (C0 : lw_At p s m meth c b L xs) (hK : sp_K g s) (hZ : sp_cst t1 t2 (fun q : Nat => s.heap.size ≤ q) s s.heap) (K : sp_AD) (a : sp_A9) :
    ∀ (n k : Nat) (u : sp_C0) (v : sp_V) (x : sp_S) (H : Heap) (locs : List Loc) (ls : Array Slot), k ≤ 512 → 513 ≤ k + n → sp_C u x → sp_M v x → sp_J x (180 * k) → va_P g.1 vwCl (xW g K u ++ mdW g a v) H → va_D (fun q : Nat => s.heap.size ≤ q) (xW g K u ++ mdW g a v) → va_S (fun q : Nat => s.heap.size ≤ q) s.heap H locs → lv_has ls 4 [(0, .ref b), (1, .ref K.1), (2, .ref a.1), (3, .int (nI (3 * k)))] → W p l e room_1 s m #[Value.ref b] below meth c H locs 600000 7302250 (lw_Z below #[Value.ref b] s) (F0 m 18 ls []) := by
  obtain ⟨hx, hb, hr, hml, hown, hts, hX, hbl, hlocks, hgv⟩ := C0
  have hts := fun w h => hts w (wsL_law_in w h)
  have SF : CallFix p m c cL_law 4 s #[Value.ref b] wsL_law RL := ⟨hx, hb, hml, hown, hts⟩
  have hA : ∀ q : Nat, s.heap.size ≤ q → (fun q : Nat => s.heap.size ≤ q) q := fun _ h => h
  have hbA : ¬ (fun q : Nat => s.heap.size ≤ q) b := Nat.not_le.mpr hbl
  intro n
  induction n with
  | zero =>
    intro k u v x H locs ls h1 h2
    exact absurd h2 (by omega)
  | succ n ih =>
    intro k u v x H locs ls hk hn hC hM hJ hP hD hS hl
    have hback : ∀ (u : sp_C0) (v : sp_V) (x : sp_S) (H : Heap) (locs : List Loc) (ls : Array Slot), 3 * k + 3 ≤ L → sp_C u x → sp_M v x → sp_J x (180 * k + 180) → va_P g.1 vwCl (xW g K u ++ mdW g a v) H → va_D (fun q : Nat => s.heap.size ≤ q) (xW g K u ++ mdW g a v) → va_S (fun q : Nat => s.heap.size ≤ q) s.heap H locs → lv_has ls 4 [(0, .ref b), (1, .ref K.1), (2, .ref a.1), (3, .int (nI (3 * k)))] → W p l e room_1 s m #[Value.ref b] below meth c H locs 600000 7302250 (lw_Z below #[Value.ref b] s) (F0 m 591 ls []) := by
      intro u v x H locs ls h3 hC hM hJ hP hD hS hl
      refine lv_iinc (v := nI (3 * (k + 1))) (lv' := [(3, .int (nI (3 * (k + 1)))), (0, .ref b), (1, .ref K.1), (2, .ref a.1)]) hx hb dL_law_591 hl (k := 3) rfl ((nI_add (3 * k) 3).trans (by rw [show 3 * (k + 1) = 3 * k + 3 by omega])) (by decide) rfl (fun ls hl => ?_)
      refine lv_goto (tgt := 18) hx hb dL_law_594 (by decide) ?_
      exact ih (k + 1) u v x _ _ _ (by omega) (by omega) hC hM (by rw [show 180 * (k + 1) = 180 * k + 180 by omega]; exact hJ) hP hD hS (lv_sub hl [1, 2, 3, 0] rfl)
    refine lv_iload_n hx hb dL_law_18 rfl (lv_at hl 3 rfl) ?_
    refine lv_aload_n hx hb dL_law_19 rfl (lv_at hl 0 rfl) ?_
    refine va_slen hx hb hX hbl hbA hS dL_law_20 ?_
    refine lv_iconst (v := nI 3) hx hb dL_law_21 (by decide) ?_
    refine lv_isub hx hb dL_law_22 ?_
    refine lv_icmp_gt (tgt := 597) hx hb dL_law_23 (by decide) (fun c1 => ?_) (fun c1 => ?_)
    · refine lv_iconst (v := 1) hx hb dL_law_597 (by decide) ?_
      refine va_forget (fun q hq => hS.2.2 q hq) ?_
      exact lw_ret hx hb hr hlocks dL_law_598
    · have h3 : 3 * k + 3 ≤ L := by
        have := mt (sp_lwc (i := 3 * k) (by omega) hL).mpr c1
        omega
      have i0 : vp_in (nI (3 * k)) L := vp_in_nI (by omega) (by omega)
      have i1 : vp_in (nI (3 * k + 1)) L := vp_in_nI (by omega) (by omega)
      have i2 : vp_in (nI (3 * k + 2)) L := vp_in_nI (by omega) (by omega)
      refine lv_aload_n hx hb dL_law_26 rfl (lv_at hl 0 rfl) ?_
      refine lv_iload_n hx hb dL_law_27 rfl (lv_at hl 3 rfl) ?_
      refine va_sld hx hb hX hbl hbA hS i0 dL_law_28 ?_
      refine lv_bipush (v := nI 31) hx hb dL_law_29 (by decide) ?_
      refine lv_iand hx hb dL_law_31 ?_
      refine lv_topi (fun w _ => ?_)
      by_cases hsw : 0 ≤ w.toInt ∧ w.toInt ≤ (18 : Nat)
      · obtain ⟨j, hj, rfl⟩ := swI_ex (m := 18) hsw (by omega)
        rcases (show j = 0 ∨ j = 1 ∨ j = 2 ∨ j = 3 ∨ j = 4 ∨ j = 5 ∨ j = 6 ∨ j = 7 ∨ j = 8 ∨ j = 9 ∨ j = 10 ∨ j = 11 ∨ j = 12 ∨ j = 13 ∨ j = 14 ∨ j = 15 ∨ j = 16 ∨ j = 17 ∨ j = 18 by omega) with rfl | rfl | rfl | rfl | rfl | rfl | rfl | rfl | rfl | rfl | rfl | rfl | rfl | rfl | rfl | rfl | rfl | rfl | rfl
        · refine lv_tableIn (off := 92) (tgt := 124) hx hb dL_law_32 (by decide) (by decide) (by decide) (by decide) ?_
          refine lv_aload_n hx hb dL_law_124 rfl (lv_at hl 1 rfl) ?_
          refine lv_aload_n hx hb dL_law_125 rfl (lv_at hl 0 rfl) ?_
          refine lv_iload_n hx hb dL_law_126 rfl (lv_at hl 3 rfl) ?_
          refine lv_iconst (v := nI 1) hx hb dL_law_127 (by decide) ?_
          refine lv_iadd hx hb dL_law_128 ?_
          refine sp_topL (y := nI (3 * k + 1)) (nI_add _ _) ?_
          refine va_sld hx hb hX hbl hbA hS i1 dL_law_129 ?_
          refine sp_viL (n := 1) SF hK hA (c_X4_told l g K u x hC (180 * k) hJ (by omega) (xs (nI (3 * k + 1)).toNatClampNeg)) gL_law_X4_told rfl rfl rfl (by decide +kernel) rfl ⟨Nat.le_of_ble_eq_true rfl, Nat.le_of_ble_eq_true rfl⟩ 4 0 rfl rfl hP hD hS hl.1 rfl (Nat.le_of_ble_eq_true rfl) dL_law_130 ⟨Nat.le_refl _, Nat.le_refl _⟩ (fun r1 u1 H locs hw1 hP hD hS => ?_)
          have hP := sp_P_perm (w2 := mdW g a v ++ xW g K u1) List.perm_append_comm hP
          have hD := sp_D_perm (w2 := mdW g a v ++ xW g K u1) List.perm_append_comm hD
          refine lv_aload_n hx hb dL_law_133 rfl (lv_at hl 2 rfl) ?_
          refine lv_aload_n hx hb dL_law_134 rfl (lv_at hl 0 rfl) ?_
          refine lv_iload_n hx hb dL_law_135 rfl (lv_at hl 3 rfl) ?_
          refine lv_iconst (v := nI 1) hx hb dL_law_136 (by decide) ?_
          refine lv_iadd hx hb dL_law_137 ?_
          refine sp_topL (y := nI (3 * k + 1)) (nI_add _ _) ?_
          refine va_sld hx hb hX hbl hbA hS i1 dL_law_138 ?_
          refine sp_viL (n := 1) SF hK hA (c_X5_told l g a v x hM (180 * k) hJ (by omega) (xs (nI (3 * k + 1)).toNatClampNeg)) gL_law_X5_told rfl rfl rfl (by decide +kernel) rfl ⟨Nat.le_of_ble_eq_true rfl, Nat.le_of_ble_eq_true rfl⟩ 5 0 rfl rfl hP hD hS hl.1 rfl (Nat.le_of_ble_eq_true rfl) dL_law_139 ⟨Nat.le_refl _, Nat.le_refl _⟩ (fun r2 v1 H locs hw2 hP hD hS => ?_)
          have hP := sp_P_perm (w2 := xW g K u1 ++ mdW g a v1) List.perm_append_comm hP
          have hD := sp_D_perm (w2 := xW g K u1 ++ mdW g a v1) List.perm_append_comm hD
          refine lv_icmp_eq (tgt := 591) hx hb dL_law_142 (by decide) (fun _ => ?_) (fun c2 => absurd (hw1.1.trans hw2.1.symm) c2)
          exact hback u1 v1 x _ _ _ h3 hw1.2 hw2.2 (sp_J_mono hJ (by omega)) hP hD hS hl
        · refine lv_tableIn (off := 115) (tgt := 147) hx hb dL_law_32 (by decide) (by decide) (by decide) (by decide) ?_
          refine lv_aload_n hx hb dL_law_147 rfl (lv_at hl 1 rfl) ?_
          refine lv_aload_n hx hb dL_law_148 rfl (lv_at hl 0 rfl) ?_
          refine lv_iload_n hx hb dL_law_149 rfl (lv_at hl 3 rfl) ?_
          refine lv_iconst (v := nI 1) hx hb dL_law_150 (by decide) ?_
          refine lv_iadd hx hb dL_law_151 ?_
          refine sp_topL (y := nI (3 * k + 1)) (nI_add _ _) ?_
          refine va_sld hx hb hX hbl hbA hS i1 dL_law_152 ?_
          refine lv_aload_n hx hb dL_law_153 rfl (lv_at hl 0 rfl) ?_
          refine lv_iload_n hx hb dL_law_154 rfl (lv_at hl 3 rfl) ?_
          refine lv_iconst (v := nI 2) hx hb dL_law_155 (by decide) ?_
          refine lv_iadd hx hb dL_law_156 ?_
          refine sp_topL (y := nI (3 * k + 2)) (nI_add _ _) ?_
          refine va_sld hx hb hX hbl hbA hS i2 dL_law_157 ?_
          refine sp_viL (n := 2) SF hK hA (c_X4_floor l g K u x hC (180 * k) hJ (by omega) (xs (nI (3 * k + 1)).toNatClampNeg) (xs (nI (3 * k + 2)).toNatClampNeg)) gL_law_X4_floor rfl rfl rfl (by decide +kernel) rfl ⟨Nat.le_of_ble_eq_true rfl, Nat.le_of_ble_eq_true rfl⟩ 4 0 rfl rfl hP hD hS hl.1 rfl (Nat.le_of_ble_eq_true rfl) dL_law_158 ⟨Nat.le_refl _, Nat.le_refl _⟩ (fun r1 u1 H locs hw1 hP hD hS => ?_)
          have hP := sp_P_perm (w2 := mdW g a v ++ xW g K u1) List.perm_append_comm hP
          have hD := sp_D_perm (w2 := mdW g a v ++ xW g K u1) List.perm_append_comm hD
          refine lv_aload_n hx hb dL_law_161 rfl (lv_at hl 2 rfl) ?_
          refine lv_aload_n hx hb dL_law_162 rfl (lv_at hl 0 rfl) ?_
          refine lv_iload_n hx hb dL_law_163 rfl (lv_at hl 3 rfl) ?_
          refine lv_iconst (v := nI 1) hx hb dL_law_164 (by decide) ?_
          refine lv_iadd hx hb dL_law_165 ?_
          refine sp_topL (y := nI (3 * k + 1)) (nI_add _ _) ?_
          refine va_sld hx hb hX hbl hbA hS i1 dL_law_166 ?_
          refine lv_aload_n hx hb dL_law_167 rfl (lv_at hl 0 rfl) ?_
          refine lv_iload_n hx hb dL_law_168 rfl (lv_at hl 3 rfl) ?_
          refine lv_iconst (v := nI 2) hx hb dL_law_169 (by decide) ?_
          refine lv_iadd hx hb dL_law_170 ?_
          refine sp_topL (y := nI (3 * k + 2)) (nI_add _ _) ?_
          refine va_sld hx hb hX hbl hbA hS i2 dL_law_171 ?_
          refine sp_viL (n := 2) SF hK hA (c_X5_floor l g a v x hM (180 * k) hJ (by omega) (xs (nI (3 * k + 1)).toNatClampNeg) (xs (nI (3 * k + 2)).toNatClampNeg)) gL_law_X5_floor rfl rfl rfl (by decide +kernel) rfl ⟨Nat.le_of_ble_eq_true rfl, Nat.le_of_ble_eq_true rfl⟩ 5 0 rfl rfl hP hD hS hl.1 rfl (Nat.le_of_ble_eq_true rfl) dL_law_172 ⟨Nat.le_refl _, Nat.le_refl _⟩ (fun r2 v1 H locs hw2 hP hD hS => ?_)
          have hP := sp_P_perm (w2 := xW g K u1 ++ mdW g a v1) List.perm_append_comm hP
          have hD := sp_D_perm (w2 := xW g K u1 ++ mdW g a v1) List.perm_append_comm hD
          refine lv_icmp_eq (tgt := 591) hx hb dL_law_175 (by decide) (fun _ => ?_) (fun c2 => absurd (hw1.1.trans hw2.1.symm) c2)
          exact hback u1 v1 x _ _ _ h3 hw1.2 hw2.2 (sp_J_mono hJ (by omega)) hP hD hS hl
        · refine lv_tableIn (off := 148) (tgt := 180) hx hb dL_law_32 (by decide) (by decide) (by decide) (by decide) ?_
          refine lv_aload_n hx hb dL_law_180 rfl (lv_at hl 1 rfl) ?_
          refine lv_aload_n hx hb dL_law_181 rfl (lv_at hl 0 rfl) ?_
          refine lv_iload_n hx hb dL_law_182 rfl (lv_at hl 3 rfl) ?_
          refine lv_iconst (v := nI 1) hx hb dL_law_183 (by decide) ?_
          refine lv_iadd hx hb dL_law_184 ?_
          refine sp_topL (y := nI (3 * k + 1)) (nI_add _ _) ?_
          refine va_sld hx hb hX hbl hbA hS i1 dL_law_185 ?_
          refine lv_aload_n hx hb dL_law_186 rfl (lv_at hl 0 rfl) ?_
          refine lv_iload_n hx hb dL_law_187 rfl (lv_at hl 3 rfl) ?_
          refine lv_iconst (v := nI 2) hx hb dL_law_188 (by decide) ?_
          refine lv_iadd hx hb dL_law_189 ?_
          refine sp_topL (y := nI (3 * k + 2)) (nI_add _ _) ?_
          refine va_sld hx hb hX hbl hbA hS i2 dL_law_190 ?_
          refine sp_viL (n := 2) SF hK hA (c_X4_hundredths l g K u x hC (180 * k) hJ (by omega) (xs (nI (3 * k + 1)).toNatClampNeg) (xs (nI (3 * k + 2)).toNatClampNeg)) gL_law_X4_hundredths rfl rfl rfl (by decide +kernel) rfl ⟨Nat.le_of_ble_eq_true rfl, Nat.le_of_ble_eq_true rfl⟩ 4 0 rfl rfl hP hD hS hl.1 rfl (Nat.le_of_ble_eq_true rfl) dL_law_191 ⟨Nat.le_refl _, Nat.le_refl _⟩ (fun r1 u1 H locs hw1 hP hD hS => ?_)
          have hP := sp_P_perm (w2 := mdW g a v ++ xW g K u1) List.perm_append_comm hP
          have hD := sp_D_perm (w2 := mdW g a v ++ xW g K u1) List.perm_append_comm hD
          refine lv_aload_n hx hb dL_law_194 rfl (lv_at hl 2 rfl) ?_
          refine lv_aload_n hx hb dL_law_195 rfl (lv_at hl 0 rfl) ?_
          refine lv_iload_n hx hb dL_law_196 rfl (lv_at hl 3 rfl) ?_
          refine lv_iconst (v := nI 1) hx hb dL_law_197 (by decide) ?_
          refine lv_iadd hx hb dL_law_198 ?_
          refine sp_topL (y := nI (3 * k + 1)) (nI_add _ _) ?_
          refine va_sld hx hb hX hbl hbA hS i1 dL_law_199 ?_
          refine lv_aload_n hx hb dL_law_200 rfl (lv_at hl 0 rfl) ?_
          refine lv_iload_n hx hb dL_law_201 rfl (lv_at hl 3 rfl) ?_
          refine lv_iconst (v := nI 2) hx hb dL_law_202 (by decide) ?_
          refine lv_iadd hx hb dL_law_203 ?_
          refine sp_topL (y := nI (3 * k + 2)) (nI_add _ _) ?_
          refine va_sld hx hb hX hbl hbA hS i2 dL_law_204 ?_
          refine sp_viL (n := 2) SF hK hA (c_X5_hundredths l g a v x hM (180 * k) hJ (by omega) (xs (nI (3 * k + 1)).toNatClampNeg) (xs (nI (3 * k + 2)).toNatClampNeg)) gL_law_X5_hundredths rfl rfl rfl (by decide +kernel) rfl ⟨Nat.le_of_ble_eq_true rfl, Nat.le_of_ble_eq_true rfl⟩ 5 0 rfl rfl hP hD hS hl.1 rfl (Nat.le_of_ble_eq_true rfl) dL_law_205 ⟨Nat.le_refl _, Nat.le_refl _⟩ (fun r2 v1 H locs hw2 hP hD hS => ?_)
          have hP := sp_P_perm (w2 := xW g K u1 ++ mdW g a v1) List.perm_append_comm hP
          have hD := sp_D_perm (w2 := xW g K u1 ++ mdW g a v1) List.perm_append_comm hD
          refine lv_icmp_eq (tgt := 591) hx hb dL_law_208 (by decide) (fun _ => ?_) (fun c2 => absurd (hw1.1.trans hw2.1.symm) c2)
          exact hback u1 v1 x _ _ _ h3 hw1.2 hw2.2 (sp_J_mono hJ (by omega)) hP hD hS hl
        · refine lv_tableIn (off := 181) (tgt := 213) hx hb dL_law_32 (by decide) (by decide) (by decide) (by decide) ?_
          refine lv_aload_n hx hb dL_law_213 rfl (lv_at hl 1 rfl) ?_
          refine lv_aload_n hx hb dL_law_214 rfl (lv_at hl 0 rfl) ?_
          refine lv_iload_n hx hb dL_law_215 rfl (lv_at hl 3 rfl) ?_
          refine lv_iconst (v := nI 1) hx hb dL_law_216 (by decide) ?_
          refine lv_iadd hx hb dL_law_217 ?_
          refine sp_topL (y := nI (3 * k + 1)) (nI_add _ _) ?_
          refine va_sld hx hb hX hbl hbA hS i1 dL_law_218 ?_
          refine lv_aload_n hx hb dL_law_219 rfl (lv_at hl 0 rfl) ?_
          refine lv_iload_n hx hb dL_law_220 rfl (lv_at hl 3 rfl) ?_
          refine lv_iconst (v := nI 2) hx hb dL_law_221 (by decide) ?_
          refine lv_iadd hx hb dL_law_222 ?_
          refine sp_topL (y := nI (3 * k + 2)) (nI_add _ _) ?_
          refine va_sld hx hb hX hbl hbA hS i2 dL_law_223 ?_
          refine sp_viL (n := 2) SF hK hA (c_X4_would l g K u x hC (180 * k) hJ (by omega) (xs (nI (3 * k + 1)).toNatClampNeg) (xs (nI (3 * k + 2)).toNatClampNeg)) gL_law_X4_would rfl rfl rfl (by decide +kernel) rfl ⟨Nat.le_of_ble_eq_true rfl, Nat.le_of_ble_eq_true rfl⟩ 4 0 rfl rfl hP hD hS hl.1 rfl (Nat.le_of_ble_eq_true rfl) dL_law_224 ⟨Nat.le_refl _, Nat.le_refl _⟩ (fun r1 u1 H locs hw1 hP hD hS => ?_)
          have hP := sp_P_perm (w2 := mdW g a v ++ xW g K u1) List.perm_append_comm hP
          have hD := sp_D_perm (w2 := mdW g a v ++ xW g K u1) List.perm_append_comm hD
          refine lv_aload_n hx hb dL_law_227 rfl (lv_at hl 2 rfl) ?_
          refine lv_aload_n hx hb dL_law_228 rfl (lv_at hl 0 rfl) ?_
          refine lv_iload_n hx hb dL_law_229 rfl (lv_at hl 3 rfl) ?_
          refine lv_iconst (v := nI 1) hx hb dL_law_230 (by decide) ?_
          refine lv_iadd hx hb dL_law_231 ?_
          refine sp_topL (y := nI (3 * k + 1)) (nI_add _ _) ?_
          refine va_sld hx hb hX hbl hbA hS i1 dL_law_232 ?_
          refine lv_aload_n hx hb dL_law_233 rfl (lv_at hl 0 rfl) ?_
          refine lv_iload_n hx hb dL_law_234 rfl (lv_at hl 3 rfl) ?_
          refine lv_iconst (v := nI 2) hx hb dL_law_235 (by decide) ?_
          refine lv_iadd hx hb dL_law_236 ?_
          refine sp_topL (y := nI (3 * k + 2)) (nI_add _ _) ?_
          refine va_sld hx hb hX hbl hbA hS i2 dL_law_237 ?_
          refine sp_viL (n := 2) SF hK hA (c_X5_would l g a v x hM (180 * k) hJ (by omega) (xs (nI (3 * k + 1)).toNatClampNeg) (xs (nI (3 * k + 2)).toNatClampNeg)) gL_law_X5_would rfl rfl rfl (by decide +kernel) rfl ⟨Nat.le_of_ble_eq_true rfl, Nat.le_of_ble_eq_true rfl⟩ 5 0 rfl rfl hP hD hS hl.1 rfl (Nat.le_of_ble_eq_true rfl) dL_law_238 ⟨Nat.le_refl _, Nat.le_refl _⟩ (fun r2 v1 H locs hw2 hP hD hS => ?_)
          have hP := sp_P_perm (w2 := xW g K u1 ++ mdW g a v1) List.perm_append_comm hP
          have hD := sp_D_perm (w2 := xW g K u1 ++ mdW g a v1) List.perm_append_comm hD
          refine lv_icmp_eq (tgt := 591) hx hb dL_law_241 (by decide) (fun _ => ?_) (fun c2 => absurd (hw1.1.trans hw2.1.symm) c2)
          exact hback u1 v1 x _ _ _ h3 hw1.2 hw2.2 (sp_J_mono hJ (by omega)) hP hD hS hl
        · refine lv_tableIn (off := 214) (tgt := 246) hx hb dL_law_32 (by decide) (by decide) (by decide) (by decide) ?_
          refine lv_aload_n hx hb dL_law_246 rfl (lv_at hl 1 rfl) ?_
          refine lv_aload_n hx hb dL_law_247 rfl (lv_at hl 0 rfl) ?_
          refine lv_iload_n hx hb dL_law_248 rfl (lv_at hl 3 rfl) ?_
          refine lv_iconst (v := nI 1) hx hb dL_law_249 (by decide) ?_
          refine lv_iadd hx hb dL_law_250 ?_
          refine sp_topL (y := nI (3 * k + 1)) (nI_add _ _) ?_
          refine va_sld hx hb hX hbl hbA hS i1 dL_law_251 ?_
          refine sp_viL (n := 1) SF hK hA (c_X4_cycle l g K u x hC (180 * k) hJ (by omega) (xs (nI (3 * k + 1)).toNatClampNeg)) gL_law_X4_cycle rfl rfl rfl (by decide +kernel) rfl ⟨Nat.le_of_ble_eq_true rfl, Nat.le_of_ble_eq_true rfl⟩ 4 0 rfl rfl hP hD hS hl.1 rfl (Nat.le_of_ble_eq_true rfl) dL_law_252 ⟨Nat.le_refl _, Nat.le_refl _⟩ (fun r1 u1 H locs hw1 hP hD hS => ?_)
          have hP := sp_P_perm (w2 := mdW g a v ++ xW g K u1) List.perm_append_comm hP
          have hD := sp_D_perm (w2 := mdW g a v ++ xW g K u1) List.perm_append_comm hD
          refine lv_aload_n hx hb dL_law_255 rfl (lv_at hl 2 rfl) ?_
          refine lv_aload_n hx hb dL_law_256 rfl (lv_at hl 0 rfl) ?_
          refine lv_iload_n hx hb dL_law_257 rfl (lv_at hl 3 rfl) ?_
          refine lv_iconst (v := nI 1) hx hb dL_law_258 (by decide) ?_
          refine lv_iadd hx hb dL_law_259 ?_
          refine sp_topL (y := nI (3 * k + 1)) (nI_add _ _) ?_
          refine va_sld hx hb hX hbl hbA hS i1 dL_law_260 ?_
          refine sp_viL (n := 1) SF hK hA (c_X5_cycle l g a v x hM (180 * k) hJ (by omega) (xs (nI (3 * k + 1)).toNatClampNeg)) gL_law_X5_cycle rfl rfl rfl (by decide +kernel) rfl ⟨Nat.le_of_ble_eq_true rfl, Nat.le_of_ble_eq_true rfl⟩ 5 0 rfl rfl hP hD hS hl.1 rfl (Nat.le_of_ble_eq_true rfl) dL_law_261 ⟨Nat.le_refl _, Nat.le_refl _⟩ (fun r2 v1 H locs hw2 hP hD hS => ?_)
          have hP := sp_P_perm (w2 := xW g K u1 ++ mdW g a v1) List.perm_append_comm hP
          have hD := sp_D_perm (w2 := xW g K u1 ++ mdW g a v1) List.perm_append_comm hD
          refine lv_icmp_eq (tgt := 591) hx hb dL_law_264 (by decide) (fun _ => ?_) (fun c2 => absurd (hw1.1.trans hw2.1.symm) c2)
          exact hback u1 v1 x _ _ _ h3 hw1.2 hw2.2 (sp_J_mono hJ (by omega)) hP hD hS hl
        · refine lv_tableIn (off := 237) (tgt := 269) hx hb dL_law_32 (by decide) (by decide) (by decide) (by decide) ?_
          refine lv_aload_n hx hb dL_law_269 rfl (lv_at hl 1 rfl) ?_
          refine lv_aload_n hx hb dL_law_270 rfl (lv_at hl 0 rfl) ?_
          refine lv_iload_n hx hb dL_law_271 rfl (lv_at hl 3 rfl) ?_
          refine lv_iconst (v := nI 1) hx hb dL_law_272 (by decide) ?_
          refine lv_iadd hx hb dL_law_273 ?_
          refine sp_topL (y := nI (3 * k + 1)) (nI_add _ _) ?_
          refine va_sld hx hb hX hbl hbA hS i1 dL_law_274 ?_
          refine sp_viL (n := 1) SF hK hA (c_X4_days l g K u x hC (180 * k) hJ (by omega) (xs (nI (3 * k + 1)).toNatClampNeg)) gL_law_X4_days rfl rfl rfl (by decide +kernel) rfl ⟨Nat.le_of_ble_eq_true rfl, Nat.le_of_ble_eq_true rfl⟩ 4 0 rfl rfl hP hD hS hl.1 rfl (Nat.le_of_ble_eq_true rfl) dL_law_275 ⟨Nat.le_refl _, Nat.le_refl _⟩ (fun r1 u1 H locs hw1 hP hD hS => ?_)
          have hP := sp_P_perm (w2 := mdW g a v ++ xW g K u1) List.perm_append_comm hP
          have hD := sp_D_perm (w2 := mdW g a v ++ xW g K u1) List.perm_append_comm hD
          refine lv_aload_n hx hb dL_law_278 rfl (lv_at hl 2 rfl) ?_
          refine lv_aload_n hx hb dL_law_279 rfl (lv_at hl 0 rfl) ?_
          refine lv_iload_n hx hb dL_law_280 rfl (lv_at hl 3 rfl) ?_
          refine lv_iconst (v := nI 1) hx hb dL_law_281 (by decide) ?_
          refine lv_iadd hx hb dL_law_282 ?_
          refine sp_topL (y := nI (3 * k + 1)) (nI_add _ _) ?_
          refine va_sld hx hb hX hbl hbA hS i1 dL_law_283 ?_
          refine sp_viL (n := 1) SF hK hA (c_X5_days l g a v x hM (180 * k) hJ (by omega) (xs (nI (3 * k + 1)).toNatClampNeg)) gL_law_X5_days rfl rfl rfl (by decide +kernel) rfl ⟨Nat.le_of_ble_eq_true rfl, Nat.le_of_ble_eq_true rfl⟩ 5 0 rfl rfl hP hD hS hl.1 rfl (Nat.le_of_ble_eq_true rfl) dL_law_284 ⟨Nat.le_refl _, Nat.le_refl _⟩ (fun r2 v1 H locs hw2 hP hD hS => ?_)
          have hP := sp_P_perm (w2 := xW g K u1 ++ mdW g a v1) List.perm_append_comm hP
          have hD := sp_D_perm (w2 := xW g K u1 ++ mdW g a v1) List.perm_append_comm hD
          refine lv_icmp_eq (tgt := 591) hx hb dL_law_287 (by decide) (fun _ => ?_) (fun c2 => absurd (hw1.1.trans hw2.1.symm) c2)
          exact hback u1 v1 _ _ _ _ h3 hw1.2 hw2.2 (sp_J_days hJ (by omega) (xs (nI (3 * k + 1)).toNatClampNeg)) hP hD hS hl
        · refine lv_tableIn (off := 260) (tgt := 292) hx hb dL_law_32 (by decide) (by decide) (by decide) (by decide) ?_
          refine lv_aload_n hx hb dL_law_292 rfl (lv_at hl 1 rfl) ?_
          refine sp_viL (n := 0) SF hK hA (c_X4_pour l g K u x hC (180 * k) hJ (by omega)) gL_law_X4_pour rfl rfl rfl (by decide +kernel) rfl ⟨Nat.le_of_ble_eq_true rfl, Nat.le_of_ble_eq_true rfl⟩ 4 0 rfl rfl hP hD hS hl.1 rfl (Nat.le_of_ble_eq_true rfl) dL_law_293 ⟨Nat.le_refl _, Nat.le_refl _⟩ (fun r1 u1 H locs hw1 hP hD hS => ?_)
          have hP := sp_P_perm (w2 := mdW g a v ++ xW g K u1) List.perm_append_comm hP
          have hD := sp_D_perm (w2 := mdW g a v ++ xW g K u1) List.perm_append_comm hD
          refine lv_aload_n hx hb dL_law_296 rfl (lv_at hl 2 rfl) ?_
          refine sp_viL (n := 0) SF hK hA (c_X5_pour l g a v x hM (180 * k) hJ (by omega)) gL_law_X5_pour rfl rfl rfl (by decide +kernel) rfl ⟨Nat.le_of_ble_eq_true rfl, Nat.le_of_ble_eq_true rfl⟩ 5 0 rfl rfl hP hD hS hl.1 rfl (Nat.le_of_ble_eq_true rfl) dL_law_297 ⟨Nat.le_refl _, Nat.le_refl _⟩ (fun r2 v1 H locs hw2 hP hD hS => ?_)
          have hP := sp_P_perm (w2 := xW g K u1 ++ mdW g a v1) List.perm_append_comm hP
          have hD := sp_D_perm (w2 := xW g K u1 ++ mdW g a v1) List.perm_append_comm hD
          refine lv_icmp_eq (tgt := 591) hx hb dL_law_300 (by decide) (fun _ => ?_) (fun c2 => absurd (hw1.1.trans hw2.1.symm) c2)
          exact hback u1 v1 _ _ _ _ h3 hw1.2 hw2.2 (sp_J_pour hJ) hP hD hS hl
        · refine lv_tableIn (off := 273) (tgt := 305) hx hb dL_law_32 (by decide) (by decide) (by decide) (by decide) ?_
          refine lv_aload_n hx hb dL_law_305 rfl (lv_at hl 1 rfl) ?_
          refine lv_aload_n hx hb dL_law_306 rfl (lv_at hl 0 rfl) ?_
          refine lv_iload_n hx hb dL_law_307 rfl (lv_at hl 3 rfl) ?_
          refine lv_iconst (v := nI 1) hx hb dL_law_308 (by decide) ?_
          refine lv_iadd hx hb dL_law_309 ?_
          refine sp_topL (y := nI (3 * k + 1)) (nI_add _ _) ?_
          refine va_sld hx hb hX hbl hbA hS i1 dL_law_310 ?_
          refine sp_viL (n := 1) SF hK hA (c_X4_strike l g K u x hC (180 * k) hJ (by omega) (xs (nI (3 * k + 1)).toNatClampNeg)) gL_law_X4_strike rfl rfl rfl (by decide +kernel) rfl ⟨Nat.le_of_ble_eq_true rfl, Nat.le_of_ble_eq_true rfl⟩ 4 0 rfl rfl hP hD hS hl.1 rfl (Nat.le_of_ble_eq_true rfl) dL_law_311 ⟨Nat.le_refl _, Nat.le_refl _⟩ (fun r1 u1 H locs hw1 hP hD hS => ?_)
          have hP := sp_P_perm (w2 := mdW g a v ++ xW g K u1) List.perm_append_comm hP
          have hD := sp_D_perm (w2 := mdW g a v ++ xW g K u1) List.perm_append_comm hD
          refine lv_aload_n hx hb dL_law_314 rfl (lv_at hl 2 rfl) ?_
          refine lv_aload_n hx hb dL_law_315 rfl (lv_at hl 0 rfl) ?_
          refine lv_iload_n hx hb dL_law_316 rfl (lv_at hl 3 rfl) ?_
          refine lv_iconst (v := nI 1) hx hb dL_law_317 (by decide) ?_
          refine lv_iadd hx hb dL_law_318 ?_
          refine sp_topL (y := nI (3 * k + 1)) (nI_add _ _) ?_
          refine va_sld hx hb hX hbl hbA hS i1 dL_law_319 ?_
          refine sp_viL (n := 1) SF hK hA (c_X5_strike l g a v x hM (180 * k) hJ (by omega) (xs (nI (3 * k + 1)).toNatClampNeg)) gL_law_X5_strike rfl rfl rfl (by decide +kernel) rfl ⟨Nat.le_of_ble_eq_true rfl, Nat.le_of_ble_eq_true rfl⟩ 5 0 rfl rfl hP hD hS hl.1 rfl (Nat.le_of_ble_eq_true rfl) dL_law_320 ⟨Nat.le_refl _, Nat.le_refl _⟩ (fun r2 v1 H locs hw2 hP hD hS => ?_)
          have hP := sp_P_perm (w2 := xW g K u1 ++ mdW g a v1) List.perm_append_comm hP
          have hD := sp_D_perm (w2 := xW g K u1 ++ mdW g a v1) List.perm_append_comm hD
          refine lv_icmp_eq (tgt := 591) hx hb dL_law_323 (by decide) (fun _ => ?_) (fun c2 => absurd (hw1.1.trans hw2.1.symm) c2)
          exact hback u1 v1 _ _ _ _ h3 hw1.2 hw2.2 (sp_J_strike hJ (xs (nI (3 * k + 1)).toNatClampNeg)) hP hD hS hl
        · refine lv_tableIn (off := 296) (tgt := 328) hx hb dL_law_32 (by decide) (by decide) (by decide) (by decide) ?_
          refine lv_aload_n hx hb dL_law_328 rfl (lv_at hl 1 rfl) ?_
          refine lv_aload_n hx hb dL_law_329 rfl (lv_at hl 0 rfl) ?_
          refine lv_iload_n hx hb dL_law_330 rfl (lv_at hl 3 rfl) ?_
          refine lv_iconst (v := nI 1) hx hb dL_law_331 (by decide) ?_
          refine lv_iadd hx hb dL_law_332 ?_
          refine sp_topL (y := nI (3 * k + 1)) (nI_add _ _) ?_
          refine va_sld hx hb hX hbl hbA hS i1 dL_law_333 ?_
          refine sp_viL (n := 1) SF hK hA (c_X4_back l g K u x hC (180 * k) hJ (by omega) (xs (nI (3 * k + 1)).toNatClampNeg)) gL_law_X4_back rfl rfl rfl (by decide +kernel) rfl ⟨Nat.le_of_ble_eq_true rfl, Nat.le_of_ble_eq_true rfl⟩ 4 0 rfl rfl hP hD hS hl.1 rfl (Nat.le_of_ble_eq_true rfl) dL_law_334 ⟨Nat.le_refl _, Nat.le_refl _⟩ (fun r1 u1 H locs hw1 hP hD hS => ?_)
          have hP := sp_P_perm (w2 := mdW g a v ++ xW g K u1) List.perm_append_comm hP
          have hD := sp_D_perm (w2 := mdW g a v ++ xW g K u1) List.perm_append_comm hD
          refine lv_aload_n hx hb dL_law_337 rfl (lv_at hl 2 rfl) ?_
          refine lv_aload_n hx hb dL_law_338 rfl (lv_at hl 0 rfl) ?_
          refine lv_iload_n hx hb dL_law_339 rfl (lv_at hl 3 rfl) ?_
          refine lv_iconst (v := nI 1) hx hb dL_law_340 (by decide) ?_
          refine lv_iadd hx hb dL_law_341 ?_
          refine sp_topL (y := nI (3 * k + 1)) (nI_add _ _) ?_
          refine va_sld hx hb hX hbl hbA hS i1 dL_law_342 ?_
          refine sp_viL (n := 1) SF hK hA (c_X5_back l g a v x hM (180 * k) hJ (by omega) (xs (nI (3 * k + 1)).toNatClampNeg)) gL_law_X5_back rfl rfl rfl (by decide +kernel) rfl ⟨Nat.le_of_ble_eq_true rfl, Nat.le_of_ble_eq_true rfl⟩ 5 0 rfl rfl hP hD hS hl.1 rfl (Nat.le_of_ble_eq_true rfl) dL_law_343 ⟨Nat.le_refl _, Nat.le_refl _⟩ (fun r2 v1 H locs hw2 hP hD hS => ?_)
          have hP := sp_P_perm (w2 := xW g K u1 ++ mdW g a v1) List.perm_append_comm hP
          have hD := sp_D_perm (w2 := xW g K u1 ++ mdW g a v1) List.perm_append_comm hD
          refine lv_icmp_eq (tgt := 591) hx hb dL_law_346 (by decide) (fun _ => ?_) (fun c2 => absurd (hw1.1.trans hw2.1.symm) c2)
          exact hback u1 v1 _ _ _ _ h3 hw1.2 hw2.2 (sp_J_back hJ (xs (nI (3 * k + 1)).toNatClampNeg)) hP hD hS hl
        · refine lv_tableIn (off := 319) (tgt := 351) hx hb dL_law_32 (by decide) (by decide) (by decide) (by decide) ?_
          refine lv_aload_n hx hb dL_law_351 rfl (lv_at hl 1 rfl) ?_
          refine lv_aload_n hx hb dL_law_352 rfl (lv_at hl 0 rfl) ?_
          refine lv_iload_n hx hb dL_law_353 rfl (lv_at hl 3 rfl) ?_
          refine lv_iconst (v := nI 1) hx hb dL_law_354 (by decide) ?_
          refine lv_iadd hx hb dL_law_355 ?_
          refine sp_topL (y := nI (3 * k + 1)) (nI_add _ _) ?_
          refine va_sld hx hb hX hbl hbA hS i1 dL_law_356 ?_
          refine lv_aload_n hx hb dL_law_357 rfl (lv_at hl 0 rfl) ?_
          refine lv_iload_n hx hb dL_law_358 rfl (lv_at hl 3 rfl) ?_
          refine lv_iconst (v := nI 2) hx hb dL_law_359 (by decide) ?_
          refine lv_iadd hx hb dL_law_360 ?_
          refine sp_topL (y := nI (3 * k + 2)) (nI_add _ _) ?_
          refine va_sld hx hb hX hbl hbA hS i2 dL_law_361 ?_
          refine sp_viL (n := 2) SF hK hA (c_X4_slow l g K u x hC (180 * k) hJ (by omega) (xs (nI (3 * k + 1)).toNatClampNeg) (xs (nI (3 * k + 2)).toNatClampNeg)) gL_law_X4_slow rfl rfl rfl (by decide +kernel) rfl ⟨Nat.le_of_ble_eq_true rfl, Nat.le_of_ble_eq_true rfl⟩ 4 0 rfl rfl hP hD hS hl.1 rfl (Nat.le_of_ble_eq_true rfl) dL_law_362 ⟨Nat.le_refl _, Nat.le_refl _⟩ (fun r1 u1 H locs hw1 hP hD hS => ?_)
          have hP := sp_P_perm (w2 := mdW g a v ++ xW g K u1) List.perm_append_comm hP
          have hD := sp_D_perm (w2 := mdW g a v ++ xW g K u1) List.perm_append_comm hD
          refine lv_aload_n hx hb dL_law_365 rfl (lv_at hl 2 rfl) ?_
          refine lv_aload_n hx hb dL_law_366 rfl (lv_at hl 0 rfl) ?_
          refine lv_iload_n hx hb dL_law_367 rfl (lv_at hl 3 rfl) ?_
          refine lv_iconst (v := nI 1) hx hb dL_law_368 (by decide) ?_
          refine lv_iadd hx hb dL_law_369 ?_
          refine sp_topL (y := nI (3 * k + 1)) (nI_add _ _) ?_
          refine va_sld hx hb hX hbl hbA hS i1 dL_law_370 ?_
          refine lv_aload_n hx hb dL_law_371 rfl (lv_at hl 0 rfl) ?_
          refine lv_iload_n hx hb dL_law_372 rfl (lv_at hl 3 rfl) ?_
          refine lv_iconst (v := nI 2) hx hb dL_law_373 (by decide) ?_
          refine lv_iadd hx hb dL_law_374 ?_
          refine sp_topL (y := nI (3 * k + 2)) (nI_add _ _) ?_
          refine va_sld hx hb hX hbl hbA hS i2 dL_law_375 ?_
          refine sp_viL (n := 2) SF hK hA (c_X5_slow l g a v x hM (180 * k) hJ (by omega) (xs (nI (3 * k + 1)).toNatClampNeg) (xs (nI (3 * k + 2)).toNatClampNeg)) gL_law_X5_slow rfl rfl rfl (by decide +kernel) rfl ⟨Nat.le_of_ble_eq_true rfl, Nat.le_of_ble_eq_true rfl⟩ 5 0 rfl rfl hP hD hS hl.1 rfl (Nat.le_of_ble_eq_true rfl) dL_law_376 ⟨Nat.le_refl _, Nat.le_refl _⟩ (fun r2 v1 H locs hw2 hP hD hS => ?_)
          have hP := sp_P_perm (w2 := xW g K u1 ++ mdW g a v1) List.perm_append_comm hP
          have hD := sp_D_perm (w2 := xW g K u1 ++ mdW g a v1) List.perm_append_comm hD
          refine lv_icmp_eq (tgt := 591) hx hb dL_law_379 (by decide) (fun _ => ?_) (fun c2 => absurd (hw1.1.trans hw2.1.symm) c2)
          exact hback u1 v1 _ _ _ _ h3 hw1.2 hw2.2 (sp_J_slow hJ (xs (nI (3 * k + 1)).toNatClampNeg) (xs (nI (3 * k + 2)).toNatClampNeg)) hP hD hS hl
        · refine lv_tableIn (off := 352) (tgt := 384) hx hb dL_law_32 (by decide) (by decide) (by decide) (by decide) ?_
          refine lv_aload_n hx hb dL_law_384 rfl (lv_at hl 1 rfl) ?_
          refine lv_aload_n hx hb dL_law_385 rfl (lv_at hl 0 rfl) ?_
          refine lv_iload_n hx hb dL_law_386 rfl (lv_at hl 3 rfl) ?_
          refine lv_iconst (v := nI 1) hx hb dL_law_387 (by decide) ?_
          refine lv_iadd hx hb dL_law_388 ?_
          refine sp_topL (y := nI (3 * k + 1)) (nI_add _ _) ?_
          refine va_sld hx hb hX hbl hbA hS i1 dL_law_389 ?_
          refine lv_aload_n hx hb dL_law_390 rfl (lv_at hl 0 rfl) ?_
          refine lv_iload_n hx hb dL_law_391 rfl (lv_at hl 3 rfl) ?_
          refine lv_iconst (v := nI 2) hx hb dL_law_392 (by decide) ?_
          refine lv_iadd hx hb dL_law_393 ?_
          refine sp_topL (y := nI (3 * k + 2)) (nI_add _ _) ?_
          refine va_sld hx hb hX hbl hbA hS i2 dL_law_394 ?_
          refine sp_viXL (n := 2) SF hK hZ hA (c_X4_bound l g t1 t2 K u x hC (180 * k) hJ (by omega) (xs (nI (3 * k + 1)).toNatClampNeg) (xs (nI (3 * k + 2)).toNatClampNeg)) gL_law_X4_bound rfl rfl rfl (by decide +kernel) rfl ⟨Nat.le_of_ble_eq_true rfl, Nat.le_of_ble_eq_true rfl⟩ 4 0 rfl rfl hP hD hS hl.1 rfl (Nat.le_of_ble_eq_true rfl) dL_law_395 ⟨Nat.le_refl _, Nat.le_refl _⟩ (fun r1 u1 H locs hw1 hP hD hS => ?_)
          have hP := sp_P_perm (w2 := mdW g a v ++ xW g K u1) List.perm_append_comm hP
          have hD := sp_D_perm (w2 := mdW g a v ++ xW g K u1) List.perm_append_comm hD
          refine lv_aload_n hx hb dL_law_398 rfl (lv_at hl 2 rfl) ?_
          refine lv_aload_n hx hb dL_law_399 rfl (lv_at hl 0 rfl) ?_
          refine lv_iload_n hx hb dL_law_400 rfl (lv_at hl 3 rfl) ?_
          refine lv_iconst (v := nI 1) hx hb dL_law_401 (by decide) ?_
          refine lv_iadd hx hb dL_law_402 ?_
          refine sp_topL (y := nI (3 * k + 1)) (nI_add _ _) ?_
          refine va_sld hx hb hX hbl hbA hS i1 dL_law_403 ?_
          refine lv_aload_n hx hb dL_law_404 rfl (lv_at hl 0 rfl) ?_
          refine lv_iload_n hx hb dL_law_405 rfl (lv_at hl 3 rfl) ?_
          refine lv_iconst (v := nI 2) hx hb dL_law_406 (by decide) ?_
          refine lv_iadd hx hb dL_law_407 ?_
          refine sp_topL (y := nI (3 * k + 2)) (nI_add _ _) ?_
          refine va_sld hx hb hX hbl hbA hS i2 dL_law_408 ?_
          refine sp_viL (n := 2) SF hK hA (c_X5_bound l g a v x hM (180 * k) hJ (by omega) (xs (nI (3 * k + 1)).toNatClampNeg) (xs (nI (3 * k + 2)).toNatClampNeg)) gL_law_X5_bound rfl rfl rfl (by decide +kernel) rfl ⟨Nat.le_of_ble_eq_true rfl, Nat.le_of_ble_eq_true rfl⟩ 5 0 rfl rfl hP hD hS hl.1 rfl (Nat.le_of_ble_eq_true rfl) dL_law_409 ⟨Nat.le_refl _, Nat.le_refl _⟩ (fun r2 v1 H locs hw2 hP hD hS => ?_)
          have hP := sp_P_perm (w2 := xW g K u1 ++ mdW g a v1) List.perm_append_comm hP
          have hD := sp_D_perm (w2 := xW g K u1 ++ mdW g a v1) List.perm_append_comm hD
          refine lv_icmp_eq (tgt := 591) hx hb dL_law_412 (by decide) (fun _ => ?_) (fun c2 => absurd (hw1.1.trans hw2.1.symm) c2)
          exact hback u1 v1 _ _ _ _ h3 hw1.2 hw2.2 (sp_J_bound hJ (xs (nI (3 * k + 1)).toNatClampNeg) (xs (nI (3 * k + 2)).toNatClampNeg)) hP hD hS hl
        · refine lv_tableIn (off := 385) (tgt := 417) hx hb dL_law_32 (by decide) (by decide) (by decide) (by decide) ?_
          refine lv_aload_n hx hb dL_law_417 rfl (lv_at hl 1 rfl) ?_
          refine sp_viL (n := 0) SF hK hA (c_X4_clear l g K u x hC (180 * k) hJ (by omega)) gL_law_X4_clear rfl rfl rfl (by decide +kernel) rfl ⟨Nat.le_of_ble_eq_true rfl, Nat.le_of_ble_eq_true rfl⟩ 4 0 rfl rfl hP hD hS hl.1 rfl (Nat.le_of_ble_eq_true rfl) dL_law_418 ⟨Nat.le_refl _, Nat.le_refl _⟩ (fun r1 u1 H locs hw1 hP hD hS => ?_)
          have hP := sp_P_perm (w2 := mdW g a v ++ xW g K u1) List.perm_append_comm hP
          have hD := sp_D_perm (w2 := mdW g a v ++ xW g K u1) List.perm_append_comm hD
          refine lv_aload_n hx hb dL_law_421 rfl (lv_at hl 2 rfl) ?_
          refine sp_viL (n := 0) SF hK hA (c_X5_clear l g a v x hM (180 * k) hJ (by omega)) gL_law_X5_clear rfl rfl rfl (by decide +kernel) rfl ⟨Nat.le_of_ble_eq_true rfl, Nat.le_of_ble_eq_true rfl⟩ 5 0 rfl rfl hP hD hS hl.1 rfl (Nat.le_of_ble_eq_true rfl) dL_law_422 ⟨Nat.le_refl _, Nat.le_refl _⟩ (fun r2 v1 H locs hw2 hP hD hS => ?_)
          have hP := sp_P_perm (w2 := xW g K u1 ++ mdW g a v1) List.perm_append_comm hP
          have hD := sp_D_perm (w2 := xW g K u1 ++ mdW g a v1) List.perm_append_comm hD
          refine lv_icmp_eq (tgt := 591) hx hb dL_law_425 (by decide) (fun _ => ?_) (fun c2 => absurd (hw1.1.trans hw2.1.symm) c2)
          exact hback u1 v1 _ _ _ _ h3 hw1.2 hw2.2 (sp_J_clear hJ) hP hD hS hl
        · refine lv_tableIn (off := 398) (tgt := 430) hx hb dL_law_32 (by decide) (by decide) (by decide) (by decide) ?_
          refine lv_aload_n hx hb dL_law_430 rfl (lv_at hl 1 rfl) ?_
          refine lv_aload_n hx hb dL_law_431 rfl (lv_at hl 0 rfl) ?_
          refine lv_iload_n hx hb dL_law_432 rfl (lv_at hl 3 rfl) ?_
          refine lv_iconst (v := nI 1) hx hb dL_law_433 (by decide) ?_
          refine lv_iadd hx hb dL_law_434 ?_
          refine sp_topL (y := nI (3 * k + 1)) (nI_add _ _) ?_
          refine va_sld hx hb hX hbl hbA hS i1 dL_law_435 ?_
          refine sp_viL (n := 1) SF hK hA (c_X4_drift l g K u x hC (180 * k) hJ (by omega) (xs (nI (3 * k + 1)).toNatClampNeg)) gL_law_X4_drift rfl rfl rfl (by decide +kernel) rfl ⟨Nat.le_of_ble_eq_true rfl, Nat.le_of_ble_eq_true rfl⟩ 4 0 rfl rfl hP hD hS hl.1 rfl (Nat.le_of_ble_eq_true rfl) dL_law_436 ⟨Nat.le_refl _, Nat.le_refl _⟩ (fun r1 u1 H locs hw1 hP hD hS => ?_)
          have hP := sp_P_perm (w2 := mdW g a v ++ xW g K u1) List.perm_append_comm hP
          have hD := sp_D_perm (w2 := mdW g a v ++ xW g K u1) List.perm_append_comm hD
          refine lv_aload_n hx hb dL_law_439 rfl (lv_at hl 2 rfl) ?_
          refine lv_aload_n hx hb dL_law_440 rfl (lv_at hl 0 rfl) ?_
          refine lv_iload_n hx hb dL_law_441 rfl (lv_at hl 3 rfl) ?_
          refine lv_iconst (v := nI 1) hx hb dL_law_442 (by decide) ?_
          refine lv_iadd hx hb dL_law_443 ?_
          refine sp_topL (y := nI (3 * k + 1)) (nI_add _ _) ?_
          refine va_sld hx hb hX hbl hbA hS i1 dL_law_444 ?_
          refine sp_viL (n := 1) SF hK hA (c_X5_drift l g a v x hM (180 * k) hJ (by omega) (xs (nI (3 * k + 1)).toNatClampNeg)) gL_law_X5_drift rfl rfl rfl (by decide +kernel) rfl ⟨Nat.le_of_ble_eq_true rfl, Nat.le_of_ble_eq_true rfl⟩ 5 0 rfl rfl hP hD hS hl.1 rfl (Nat.le_of_ble_eq_true rfl) dL_law_445 ⟨Nat.le_refl _, Nat.le_refl _⟩ (fun r2 v1 H locs hw2 hP hD hS => ?_)
          have hP := sp_P_perm (w2 := xW g K u1 ++ mdW g a v1) List.perm_append_comm hP
          have hD := sp_D_perm (w2 := xW g K u1 ++ mdW g a v1) List.perm_append_comm hD
          refine lv_icmp_eq (tgt := 591) hx hb dL_law_448 (by decide) (fun _ => ?_) (fun c2 => absurd (hw1.1.trans hw2.1.symm) c2)
          exact hback u1 v1 _ _ _ _ h3 hw1.2 hw2.2 (sp_J_drift hJ (by omega) (xs (nI (3 * k + 1)).toNatClampNeg)) hP hD hS hl
        · refine lv_tableIn (off := 421) (tgt := 453) hx hb dL_law_32 (by decide) (by decide) (by decide) (by decide) ?_
          refine lv_aload_n hx hb dL_law_453 rfl (lv_at hl 1 rfl) ?_
          refine lv_aload_n hx hb dL_law_454 rfl (lv_at hl 0 rfl) ?_
          refine lv_iload_n hx hb dL_law_455 rfl (lv_at hl 3 rfl) ?_
          refine lv_iconst (v := nI 1) hx hb dL_law_456 (by decide) ?_
          refine lv_iadd hx hb dL_law_457 ?_
          refine sp_topL (y := nI (3 * k + 1)) (nI_add _ _) ?_
          refine va_sld hx hb hX hbl hbA hS i1 dL_law_458 ?_
          refine sp_viL (n := 1) SF hK hA (c_X4_undo l g K u x hC (180 * k) hJ (by omega) (xs (nI (3 * k + 1)).toNatClampNeg)) gL_law_X4_undo rfl rfl rfl (by decide +kernel) rfl ⟨Nat.le_of_ble_eq_true rfl, Nat.le_of_ble_eq_true rfl⟩ 4 0 rfl rfl hP hD hS hl.1 rfl (Nat.le_of_ble_eq_true rfl) dL_law_459 ⟨Nat.le_refl _, Nat.le_refl _⟩ (fun r1 u1 H locs hw1 hP hD hS => ?_)
          have hP := sp_P_perm (w2 := mdW g a v ++ xW g K u1) List.perm_append_comm hP
          have hD := sp_D_perm (w2 := mdW g a v ++ xW g K u1) List.perm_append_comm hD
          refine lv_aload_n hx hb dL_law_462 rfl (lv_at hl 2 rfl) ?_
          refine lv_aload_n hx hb dL_law_463 rfl (lv_at hl 0 rfl) ?_
          refine lv_iload_n hx hb dL_law_464 rfl (lv_at hl 3 rfl) ?_
          refine lv_iconst (v := nI 1) hx hb dL_law_465 (by decide) ?_
          refine lv_iadd hx hb dL_law_466 ?_
          refine sp_topL (y := nI (3 * k + 1)) (nI_add _ _) ?_
          refine va_sld hx hb hX hbl hbA hS i1 dL_law_467 ?_
          refine sp_viL (n := 1) SF hK hA (c_X5_undo l g a v x hM (180 * k) hJ (by omega) (xs (nI (3 * k + 1)).toNatClampNeg)) gL_law_X5_undo rfl rfl rfl (by decide +kernel) rfl ⟨Nat.le_of_ble_eq_true rfl, Nat.le_of_ble_eq_true rfl⟩ 5 0 rfl rfl hP hD hS hl.1 rfl (Nat.le_of_ble_eq_true rfl) dL_law_468 ⟨Nat.le_refl _, Nat.le_refl _⟩ (fun r2 v1 H locs hw2 hP hD hS => ?_)
          have hP := sp_P_perm (w2 := xW g K u1 ++ mdW g a v1) List.perm_append_comm hP
          have hD := sp_D_perm (w2 := xW g K u1 ++ mdW g a v1) List.perm_append_comm hD
          refine lv_icmp_eq (tgt := 591) hx hb dL_law_471 (by decide) (fun _ => ?_) (fun c2 => absurd (hw1.1.trans hw2.1.symm) c2)
          exact hback u1 v1 _ _ _ _ h3 hw1.2 hw2.2 (sp_J_undo hJ (xs (nI (3 * k + 1)).toNatClampNeg)) hP hD hS hl
        · refine lv_tableIn (off := 444) (tgt := 476) hx hb dL_law_32 (by decide) (by decide) (by decide) (by decide) ?_
          refine lv_aload_n hx hb dL_law_476 rfl (lv_at hl 1 rfl) ?_
          refine lv_aload_n hx hb dL_law_477 rfl (lv_at hl 0 rfl) ?_
          refine lv_iload_n hx hb dL_law_478 rfl (lv_at hl 3 rfl) ?_
          refine lv_iconst (v := nI 1) hx hb dL_law_479 (by decide) ?_
          refine lv_iadd hx hb dL_law_480 ?_
          refine sp_topL (y := nI (3 * k + 1)) (nI_add _ _) ?_
          refine va_sld hx hb hX hbl hbA hS i1 dL_law_481 ?_
          refine lv_aload_n hx hb dL_law_482 rfl (lv_at hl 0 rfl) ?_
          refine lv_iload_n hx hb dL_law_483 rfl (lv_at hl 3 rfl) ?_
          refine lv_iconst (v := nI 2) hx hb dL_law_484 (by decide) ?_
          refine lv_iadd hx hb dL_law_485 ?_
          refine sp_topL (y := nI (3 * k + 2)) (nI_add _ _) ?_
          refine va_sld hx hb hX hbl hbA hS i2 dL_law_486 ?_
          refine sp_viL (n := 2) SF hK hA (c_X4_write l g K u x hC (180 * k) hJ (by omega) (xs (nI (3 * k + 1)).toNatClampNeg) (xs (nI (3 * k + 2)).toNatClampNeg)) gL_law_X4_write rfl rfl rfl (by decide +kernel) rfl ⟨Nat.le_of_ble_eq_true rfl, Nat.le_of_ble_eq_true rfl⟩ 4 0 rfl rfl hP hD hS hl.1 rfl (Nat.le_of_ble_eq_true rfl) dL_law_487 ⟨Nat.le_refl _, Nat.le_refl _⟩ (fun r1 u1 H locs hw1 hP hD hS => ?_)
          have hP := sp_P_perm (w2 := mdW g a v ++ xW g K u1) List.perm_append_comm hP
          have hD := sp_D_perm (w2 := mdW g a v ++ xW g K u1) List.perm_append_comm hD
          refine lv_aload_n hx hb dL_law_490 rfl (lv_at hl 2 rfl) ?_
          refine lv_aload_n hx hb dL_law_491 rfl (lv_at hl 0 rfl) ?_
          refine lv_iload_n hx hb dL_law_492 rfl (lv_at hl 3 rfl) ?_
          refine lv_iconst (v := nI 1) hx hb dL_law_493 (by decide) ?_
          refine lv_iadd hx hb dL_law_494 ?_
          refine sp_topL (y := nI (3 * k + 1)) (nI_add _ _) ?_
          refine va_sld hx hb hX hbl hbA hS i1 dL_law_495 ?_
          refine lv_aload_n hx hb dL_law_496 rfl (lv_at hl 0 rfl) ?_
          refine lv_iload_n hx hb dL_law_497 rfl (lv_at hl 3 rfl) ?_
          refine lv_iconst (v := nI 2) hx hb dL_law_498 (by decide) ?_
          refine lv_iadd hx hb dL_law_499 ?_
          refine sp_topL (y := nI (3 * k + 2)) (nI_add _ _) ?_
          refine va_sld hx hb hX hbl hbA hS i2 dL_law_500 ?_
          refine sp_viL (n := 2) SF hK hA (c_X5_write l g a v x hM (180 * k) hJ (by omega) (xs (nI (3 * k + 1)).toNatClampNeg) (xs (nI (3 * k + 2)).toNatClampNeg)) gL_law_X5_write rfl rfl rfl (by decide +kernel) rfl ⟨Nat.le_of_ble_eq_true rfl, Nat.le_of_ble_eq_true rfl⟩ 5 0 rfl rfl hP hD hS hl.1 rfl (Nat.le_of_ble_eq_true rfl) dL_law_501 ⟨Nat.le_refl _, Nat.le_refl _⟩ (fun r2 v1 H locs hw2 hP hD hS => ?_)
          have hP := sp_P_perm (w2 := xW g K u1 ++ mdW g a v1) List.perm_append_comm hP
          have hD := sp_D_perm (w2 := xW g K u1 ++ mdW g a v1) List.perm_append_comm hD
          refine lv_icmp_eq (tgt := 591) hx hb dL_law_504 (by decide) (fun _ => ?_) (fun c2 => absurd (hw1.1.trans hw2.1.symm) c2)
          exact hback u1 v1 _ _ _ _ h3 hw1.2 hw2.2 (sp_J_write hJ (xs (nI (3 * k + 1)).toNatClampNeg) (xs (nI (3 * k + 2)).toNatClampNeg)) hP hD hS hl
        · refine lv_tableIn (off := 477) (tgt := 509) hx hb dL_law_32 (by decide) (by decide) (by decide) (by decide) ?_
          refine lv_aload_n hx hb dL_law_509 rfl (lv_at hl 1 rfl) ?_
          refine sp_viL (n := 0) SF hK hA (c_X4_tear l g K u x hC (180 * k) hJ (by omega)) gL_law_X4_tear rfl rfl rfl (by decide +kernel) rfl ⟨Nat.le_of_ble_eq_true rfl, Nat.le_of_ble_eq_true rfl⟩ 4 0 rfl rfl hP hD hS hl.1 rfl (Nat.le_of_ble_eq_true rfl) dL_law_510 ⟨Nat.le_refl _, Nat.le_refl _⟩ (fun r1 u1 H locs hw1 hP hD hS => ?_)
          have hP := sp_P_perm (w2 := mdW g a v ++ xW g K u1) List.perm_append_comm hP
          have hD := sp_D_perm (w2 := mdW g a v ++ xW g K u1) List.perm_append_comm hD
          refine lv_aload_n hx hb dL_law_513 rfl (lv_at hl 2 rfl) ?_
          refine sp_viL (n := 0) SF hK hA (c_X5_tear l g a v x hM (180 * k) hJ (by omega)) gL_law_X5_tear rfl rfl rfl (by decide +kernel) rfl ⟨Nat.le_of_ble_eq_true rfl, Nat.le_of_ble_eq_true rfl⟩ 5 0 rfl rfl hP hD hS hl.1 rfl (Nat.le_of_ble_eq_true rfl) dL_law_514 ⟨Nat.le_refl _, Nat.le_refl _⟩ (fun r2 v1 H locs hw2 hP hD hS => ?_)
          have hP := sp_P_perm (w2 := xW g K u1 ++ mdW g a v1) List.perm_append_comm hP
          have hD := sp_D_perm (w2 := xW g K u1 ++ mdW g a v1) List.perm_append_comm hD
          refine lv_icmp_eq (tgt := 591) hx hb dL_law_517 (by decide) (fun _ => ?_) (fun c2 => absurd (hw1.1.trans hw2.1.symm) c2)
          exact hback u1 v1 _ _ _ _ h3 hw1.2 hw2.2 (sp_J_tear hJ) hP hD hS hl
        · refine lv_tableIn (off := 490) (tgt := 522) hx hb dL_law_32 (by decide) (by decide) (by decide) (by decide) ?_
          refine lv_aload_n hx hb dL_law_522 rfl (lv_at hl 1 rfl) ?_
          refine lv_aload_n hx hb dL_law_523 rfl (lv_at hl 0 rfl) ?_
          refine lv_iload_n hx hb dL_law_524 rfl (lv_at hl 3 rfl) ?_
          refine lv_iconst (v := nI 1) hx hb dL_law_525 (by decide) ?_
          refine lv_iadd hx hb dL_law_526 ?_
          refine sp_topL (y := nI (3 * k + 1)) (nI_add _ _) ?_
          refine va_sld hx hb hX hbl hbA hS i1 dL_law_527 ?_
          refine sp_viL (n := 1) SF hK hA (c_X4_seed l g K u x hC (180 * k) hJ (by omega) (xs (nI (3 * k + 1)).toNatClampNeg)) gL_law_X4_seed rfl rfl rfl (by decide +kernel) rfl ⟨Nat.le_of_ble_eq_true rfl, Nat.le_of_ble_eq_true rfl⟩ 4 0 rfl rfl hP hD hS hl.1 rfl (Nat.le_of_ble_eq_true rfl) dL_law_528 ⟨Nat.le_refl _, Nat.le_refl _⟩ (fun r1 u1 H locs hw1 hP hD hS => ?_)
          have hP := sp_P_perm (w2 := mdW g a v ++ xW g K u1) List.perm_append_comm hP
          have hD := sp_D_perm (w2 := mdW g a v ++ xW g K u1) List.perm_append_comm hD
          refine lv_aload_n hx hb dL_law_531 rfl (lv_at hl 2 rfl) ?_
          refine lv_aload_n hx hb dL_law_532 rfl (lv_at hl 0 rfl) ?_
          refine lv_iload_n hx hb dL_law_533 rfl (lv_at hl 3 rfl) ?_
          refine lv_iconst (v := nI 1) hx hb dL_law_534 (by decide) ?_
          refine lv_iadd hx hb dL_law_535 ?_
          refine sp_topL (y := nI (3 * k + 1)) (nI_add _ _) ?_
          refine va_sld hx hb hX hbl hbA hS i1 dL_law_536 ?_
          refine sp_viL (n := 1) SF hK hA (c_X5_seed l g a v x hM (180 * k) hJ (by omega) (xs (nI (3 * k + 1)).toNatClampNeg)) gL_law_X5_seed rfl rfl rfl (by decide +kernel) rfl ⟨Nat.le_of_ble_eq_true rfl, Nat.le_of_ble_eq_true rfl⟩ 5 0 rfl rfl hP hD hS hl.1 rfl (Nat.le_of_ble_eq_true rfl) dL_law_537 ⟨Nat.le_refl _, Nat.le_refl _⟩ (fun r2 v1 H locs hw2 hP hD hS => ?_)
          have hP := sp_P_perm (w2 := xW g K u1 ++ mdW g a v1) List.perm_append_comm hP
          have hD := sp_D_perm (w2 := xW g K u1 ++ mdW g a v1) List.perm_append_comm hD
          refine lv_icmp_eq (tgt := 591) hx hb dL_law_540 (by decide) (fun _ => ?_) (fun c2 => absurd (hw1.1.trans hw2.1.symm) c2)
          exact hback u1 v1 _ _ _ _ h3 hw1.2 hw2.2 (sp_J_seed hJ (xs (nI (3 * k + 1)).toNatClampNeg)) hP hD hS hl
        · refine lv_tableIn (off := 513) (tgt := 545) hx hb dL_law_32 (by decide) (by decide) (by decide) (by decide) ?_
          refine lv_aload_n hx hb dL_law_545 rfl (lv_at hl 1 rfl) ?_
          refine lv_aload_n hx hb dL_law_546 rfl (lv_at hl 0 rfl) ?_
          refine lv_iload_n hx hb dL_law_547 rfl (lv_at hl 3 rfl) ?_
          refine lv_iconst (v := nI 1) hx hb dL_law_548 (by decide) ?_
          refine lv_iadd hx hb dL_law_549 ?_
          refine sp_topL (y := nI (3 * k + 1)) (nI_add _ _) ?_
          refine va_sld hx hb hX hbl hbA hS i1 dL_law_550 ?_
          refine sp_viL (n := 1) SF hK hA (c_X4_keep l g K u x hC (180 * k) hJ (by omega) (xs (nI (3 * k + 1)).toNatClampNeg)) gL_law_X4_keep rfl rfl rfl (by decide +kernel) rfl ⟨Nat.le_of_ble_eq_true rfl, Nat.le_of_ble_eq_true rfl⟩ 4 0 rfl rfl hP hD hS hl.1 rfl (Nat.le_of_ble_eq_true rfl) dL_law_551 ⟨Nat.le_refl _, Nat.le_refl _⟩ (fun r1 u1 H locs hw1 hP hD hS => ?_)
          have hP := sp_P_perm (w2 := mdW g a v ++ xW g K u1) List.perm_append_comm hP
          have hD := sp_D_perm (w2 := mdW g a v ++ xW g K u1) List.perm_append_comm hD
          refine lv_aload_n hx hb dL_law_554 rfl (lv_at hl 2 rfl) ?_
          refine lv_aload_n hx hb dL_law_555 rfl (lv_at hl 0 rfl) ?_
          refine lv_iload_n hx hb dL_law_556 rfl (lv_at hl 3 rfl) ?_
          refine lv_iconst (v := nI 1) hx hb dL_law_557 (by decide) ?_
          refine lv_iadd hx hb dL_law_558 ?_
          refine sp_topL (y := nI (3 * k + 1)) (nI_add _ _) ?_
          refine va_sld hx hb hX hbl hbA hS i1 dL_law_559 ?_
          refine sp_viL (n := 1) SF hK hA (c_X5_keep l g a v x hM (180 * k) hJ (by omega) (xs (nI (3 * k + 1)).toNatClampNeg)) gL_law_X5_keep rfl rfl rfl (by decide +kernel) rfl ⟨Nat.le_of_ble_eq_true rfl, Nat.le_of_ble_eq_true rfl⟩ 5 0 rfl rfl hP hD hS hl.1 rfl (Nat.le_of_ble_eq_true rfl) dL_law_560 ⟨Nat.le_refl _, Nat.le_refl _⟩ (fun r2 v1 H locs hw2 hP hD hS => ?_)
          have hP := sp_P_perm (w2 := xW g K u1 ++ mdW g a v1) List.perm_append_comm hP
          have hD := sp_D_perm (w2 := xW g K u1 ++ mdW g a v1) List.perm_append_comm hD
          refine lv_icmp_eq (tgt := 591) hx hb dL_law_563 (by decide) (fun _ => ?_) (fun c2 => absurd (hw1.1.trans hw2.1.symm) c2)
          exact hback u1 v1 _ _ _ _ h3 hw1.2 hw2.2 (sp_J_keep hJ (xs (nI (3 * k + 1)).toNatClampNeg)) hP hD hS hl
        · refine lv_tableIn (off := 536) (tgt := 568) hx hb dL_law_32 (by decide) (by decide) (by decide) (by decide) ?_
          refine lv_aload_n hx hb dL_law_568 rfl (lv_at hl 1 rfl) ?_
          refine lv_aload_n hx hb dL_law_569 rfl (lv_at hl 0 rfl) ?_
          refine lv_iload_n hx hb dL_law_570 rfl (lv_at hl 3 rfl) ?_
          refine lv_iconst (v := nI 1) hx hb dL_law_571 (by decide) ?_
          refine lv_iadd hx hb dL_law_572 ?_
          refine sp_topL (y := nI (3 * k + 1)) (nI_add _ _) ?_
          refine va_sld hx hb hX hbl hbA hS i1 dL_law_573 ?_
          refine sp_viL (n := 1) SF hK hA (c_X4_goBack l g K u x hC (180 * k) hJ (by omega) (xs (nI (3 * k + 1)).toNatClampNeg)) gL_law_X4_goBack rfl rfl rfl (by decide +kernel) rfl ⟨Nat.le_of_ble_eq_true rfl, Nat.le_of_ble_eq_true rfl⟩ 4 0 rfl rfl hP hD hS hl.1 rfl (Nat.le_of_ble_eq_true rfl) dL_law_574 ⟨Nat.le_refl _, Nat.le_refl _⟩ (fun r1 u1 H locs hw1 hP hD hS => ?_)
          have hP := sp_P_perm (w2 := mdW g a v ++ xW g K u1) List.perm_append_comm hP
          have hD := sp_D_perm (w2 := mdW g a v ++ xW g K u1) List.perm_append_comm hD
          refine lv_aload_n hx hb dL_law_577 rfl (lv_at hl 2 rfl) ?_
          refine lv_aload_n hx hb dL_law_578 rfl (lv_at hl 0 rfl) ?_
          refine lv_iload_n hx hb dL_law_579 rfl (lv_at hl 3 rfl) ?_
          refine lv_iconst (v := nI 1) hx hb dL_law_580 (by decide) ?_
          refine lv_iadd hx hb dL_law_581 ?_
          refine sp_topL (y := nI (3 * k + 1)) (nI_add _ _) ?_
          refine va_sld hx hb hX hbl hbA hS i1 dL_law_582 ?_
          refine sp_viL (n := 1) SF hK hA (c_X5_goBack l g a v x hM (180 * k) hJ (by omega) (xs (nI (3 * k + 1)).toNatClampNeg)) gL_law_X5_goBack rfl rfl rfl (by decide +kernel) rfl ⟨Nat.le_of_ble_eq_true rfl, Nat.le_of_ble_eq_true rfl⟩ 5 0 rfl rfl hP hD hS hl.1 rfl (Nat.le_of_ble_eq_true rfl) dL_law_583 ⟨Nat.le_refl _, Nat.le_refl _⟩ (fun r2 v1 H locs hw2 hP hD hS => ?_)
          have hP := sp_P_perm (w2 := xW g K u1 ++ mdW g a v1) List.perm_append_comm hP
          have hD := sp_D_perm (w2 := xW g K u1 ++ mdW g a v1) List.perm_append_comm hD
          refine lv_icmp_eq (tgt := 591) hx hb dL_law_586 (by decide) (fun _ => ?_) (fun c2 => absurd (hw1.1.trans hw2.1.symm) c2)
          exact hback u1 v1 _ _ _ _ h3 hw1.2 hw2.2 (sp_J_goB hJ (xs (nI (3 * k + 1)).toNatClampNeg)) hP hD hS hl
      · refine lv_tableOut (tgt := 591) hx hb dL_law_32 (by omega) (by decide) ?_
        exact hback u v x _ _ _ h3 hC hM (sp_J_mono hJ (by omega)) hP hD hS hl
