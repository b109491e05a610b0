/-! ===== a contract that also stands on the two tables of bounds ===== -/
def sp_fL : Nat → Value := fun j => .int (nI (blo j))
def sp_fG : Nat → Value := fun j => .int (nI (bhi j))
def sp_cst (t1 t2 : Nat) (A : Nat → Prop) (U : State) (H : Heap) : Prop := va_Z "StrikePlan" "LEAST_BOUND" "[I" (.ref t1) A U H ∧ va_T .int t1 4 sp_fL A U H ∧ va_Z "StrikePlan" "GREATEST_BOUND" "[I" (.ref t2) A U H ∧ va_T .int t2 4 sp_fG A U H
theorem sp_cst.moved {t1 t2 : Nat} {A : Nat → Prop} {u U : State} {H : Heap} (hvm : u.vm.Alike U.vm) (h : sp_cst t1 t2 A u H) : sp_cst t1 t2 A U H := ⟨va_Z.moved hvm h.1, va_T.moved hvm h.2.1, va_Z.moved hvm h.2.2.1, va_T.moved hvm h.2.2.2⟩
theorem sp_cst.kept {t1 t2 : Nat} {A : Nat → Prop} {U : State} {H H1 : Heap} (h : sp_cst t1 t2 A U H) (hq : ∀ a : Nat, a < H.size → ¬ A a → H1[a]? = H[a]?) : sp_cst t1 t2 A U H1 := ⟨h.1.kept hq, h.2.1.kept hq, h.2.2.1.kept hq, h.2.2.2.kept hq⟩
theorem sp_cst.narrow {t1 t2 : Nat} {A B : Nat → Prop} {U : State} {H : Heap} (h : sp_cst t1 t2 A U H) (hAB : ∀ q, B q → A q) : sp_cst t1 t2 B U H := ⟨h.1.narrow hAB, h.2.1.narrow hAB, h.2.2.1.narrow hAB, h.2.2.2.narrow hAB⟩
def sp_preX (g : sp_G) (t1 t2 sz : Nat) (w : va_W) (U : State) : Prop := sp_pre g sz w U ∧ sp_cst t1 t2 (va_A w sz) U U.heap
def sp_CIX (l : Launch) (g : sp_G) (t1 t2 : Nat) (y : MethodName) (ws : List Cond) (rm : Room) (av : List Value) (w : va_W) {S : Type} (post : Int32 → S → Prop) (wS : S → va_W) : Prop :=
  ∀ sz : Nat, Met l y ws rm (va_Pc av (sp_preX g t1 t2 sz w)) (va_Qi post (sp_at g (va_A w sz) wS) (va_A w sz)) 0 0 (va_A w sz)
set_option maxHeartbeats 4000000 in
theorem sp_CIX.of {l : Launch} {g : sp_G} {t1 t2 : Nat} {y : MethodName} {ws ws' : List Cond} {rm : Room} {av : List Value} {w : va_W} {S : Type} {post : Int32 → S → Prop} {wS : S → va_W} {cc : ByteArray} {maxL : Nat} (hy : plainName y.cls = true) (hw : ws = Cond.code y cc maxL (some .int) :: ws') (hlen : (lg_sl av).length ≤ maxL)
    (body : ∀ (p : Program) (e : Env) (s : State) (m : MethodId) (below : List Frame) (meth : Method) (c : Code) (Q : State → Prop) (A : Nat → Prop) (ls : Array Slot), CallFix p m c cc maxL s av.toArray ws y.cls → sp_K g s → va_P g.1 vwCl w s.heap → va_D A w → (∀ q, s.heap.size ≤ q → A q) → sp_cst t1 t2 A s s.heap → lv_has ls maxL (lv_args 0 av) →
      (∀ (H : Heap) (locs : List Loc) (pc : Nat) (ls : Array Slot) (r : Int32) (u : S), decode cc pc = .ok (.ireturn, 1) → post r u → va_P g.1 vwCl (wS u) H → va_D A (wS u) → va_S A s.heap H locs → W p l e rm s m av.toArray below meth c H locs 0 0 Q (F0 m pc ls [.int r])) →
      W p l e rm s m av.toArray below meth c s.heap [] 0 0 Q (F0 m 0 ls [])) : sp_CIX l g t1 t2 y ws rm av w post wS := by
  intro sz
  refine Met.ofW (cc := cc) (maxL := maxL) (ret := some .int) hy hw ?_
  intro p e s m args below meth c s₁ B hml hv
  obtain ⟨rfl, ⟨hsz, hP, hK, hD0⟩, hZ⟩ := hv
  subst hsz
  have hD := hD0.self (sz := s.heap.size)
  rw [lg_entry_eq]
  refine body p e s m below meth c _ (va_A w s.heap.size) _ ⟨B.exec, B.bytes, hml, findClass_of_methodNamed B.named, atoms_spec (ws := ws) B.pre⟩ hK hP hD (fun q h => Or.inr h) hZ (lv_entry av hlen) ?_
  intro H locs pc ls r u hd hp hP1 hD1 hS
  have hlocks := B.notSynchronized
  exact W.iret (v := r) B.exec B.bytes B.returns (fun t ht hW => ⟨⟨r, u, rfl, hp, by rw [ht]; exact hP1, hD1⟩, hS.F ht⟩) hS.2.2 hd
theorem sp_blindX {g : sp_G} {t1 t2 sz : Nat} {w : va_W} {av : List Value} : FrameBlind (va_Pc av (sp_preX g t1 t2 sz w)) :=
  fun a U f mk q => ⟨q.1, ⟨q.2.1.1, q.2.1.2.1, q.2.1.2.2.1.blind, q.2.1.2.2.2⟩, sp_cst.moved (u := U) (U := U.calling f mk a) (Vm.Alike.refl U.vm) q.2.2⟩
theorem sp_bd_in {w : Int32} (h1 : ¬ w < 0) (h2 : ¬ nI 4 ≤ w) : 0 ≤ w.toInt ∧ w.toInt ≤ (3 : Nat) := by
  have a1 := Int32.le_iff_toInt_le.mp (Int32.not_lt.mp h1)
  have a2 := Int32.lt_iff_toInt_lt.mp (Int32.not_le.mp h2)
  rw [nI_toInt (by omega)] at a2
  rw [show (0 : Int32).toInt = 0 from rfl] at a1
  omega
theorem blo_le (k : Nat) : blo k ≤ 1 := by unfold blo; split <;> omega
theorem bhi_le (k : Nat) : bhi k ≤ 400 := by unfold bhi; split <;> (try split) <;> omega
theorem o_bound_n0 {x : sp_S} {v : Int32} {k : Nat} (hk0 : k = 0) (h : sp_bok (nI k) v = true) (hn : 0 < tn (s_now x)) : o_bound x (nI k) v = (-1000000003, x) := by subst hk0; exact o_bound_n h hn
