/-! ===== the system: what is so, what it answers ===== -/
/-- the tower; how many can be undone, and what (0: the latest); THE BOOK: how many, floors, loads; the images: kept, towers, seeds; THE SEED -/
abbrev sp_S : Type := sp_T × Nat × (Nat → sp_T) × Nat × (Nat → Nat) × (Nat → Int32) × (Nat → Bool) × (Nat → sp_T) × (Nat → Nat) × Nat
def s_now (x : sp_S) : sp_T := x.1
def s_pz (x : sp_S) : Nat := x.2.1
def s_ph (x : sp_S) : Nat → sp_T := x.2.2.1
def s_bn (x : sp_S) : Nat := x.2.2.2.1
def s_bf (x : sp_S) : Nat → Nat := x.2.2.2.2.1
def s_bl (x : sp_S) : Nat → Int32 := x.2.2.2.2.2.1
def s_ik (x : sp_S) : Nat → Bool := x.2.2.2.2.2.2.1
def s_im (x : sp_S) : Nat → sp_T := x.2.2.2.2.2.2.2.1
def s_is (x : sp_S) : Nat → Nat := x.2.2.2.2.2.2.2.2.1
def s_sd (x : sp_S) : Nat := x.2.2.2.2.2.2.2.2.2
def sp_setn (x : sp_S) (t : sp_T) : sp_S := (t, x.2)
def sp_note (x : sp_S) : sp_S := (s_now x, min (s_pz x + 1) 20, (fun j => if j = 0 then s_now x else s_ph x (j - 1)), x.2.2.2)
def sp_forget (x : sp_S) : sp_S := (s_now x, 0, x.2.2)
def swI (w : Int32) (m : Nat) : Option Nat := if 0 ≤ w.toInt ∧ w.toInt ≤ m then some w.toNatClampNeg else none
theorem swI_in {k m : Nat} (h : k ≤ m) (hm : m < 2 ^ 31) : swI (nI k) m = some k := by
  unfold swI; rw [nI_toInt (by omega), if_pos (by omega), sp_c8 (by omega)]
theorem swI_out {w : Int32} {m : Nat} (h : ¬ (0 ≤ w.toInt ∧ w.toInt ≤ m)) : swI w m = none := by unfold swI; rw [if_neg h]
theorem swI_ex {w : Int32} {m : Nat} (h : 0 ≤ w.toInt ∧ w.toInt ≤ m) (hm : m < 2 ^ 31) : ∃ k : Nat, k ≤ m ∧ w = nI k :=
  ⟨w.toInt.toNat, by omega, Int32.toInt_inj.mp (by rw [nI_toInt (by omega)]; omega)⟩
theorem sp_inI_t {x : Int32} {a b : Nat} (hb : b < 2 ^ 31) (ha : a < 2 ^ 31) (h : sp_inI x (nI a) (nI b) = true) : ∃ n : Nat, a ≤ n ∧ n ≤ b ∧ x = nI n := by
  unfold sp_inI at h
  rw [Bool.and_eq_true, decide_eq_true_eq, decide_eq_true_eq, Int32.le_iff_toInt_le, Int32.le_iff_toInt_le, nI_toInt ha, nI_toInt hb] at h
  exact ⟨x.toInt.toNat, by omega, by omega, Int32.toInt_inj.mp (by rw [nI_toInt (by omega)]; omega)⟩
theorem sp_inI_n {n a b : Nat} (h1 : a ≤ n) (h2 : n ≤ b) (hb : b < 2 ^ 31) : sp_inI (nI n) (nI a) (nI b) = true := by
  unfold sp_inI
  rw [decide_eq_true (nI_le h1 (by omega)), decide_eq_true (nI_le h2 hb)]; rfl
/-- WRONG -/
def wrF (t : sp_T) (bf : Nat → Nat) (bl : Nat → Int32) : Nat → Nat → Int32
  | 0, _ => -1
  | f + 1, k => if bf k < tn t ∧ tlo t (bf k) = bl k then wrF t bf bl f (k + 1) else nI k
def sp_wrong (x : sp_S) : Int32 := wrF (s_now x) (s_bf x) (s_bl x) (s_bn x) 0
theorem wrF_e {t : sp_T} {bf : Nat → Nat} {bl : Nat → Int32} {N k : Nat} (h : N ≤ k) : wrF t bf bl (N - k) k = -1 := by rw [show N - k = 0 by omega]; rfl
theorem wrF_g {t : sp_T} {bf : Nat → Nat} {bl : Nat → Int32} {N k : Nat} (h : k < N) (h1 : bf k < tn t) (h2 : tlo t (bf k) = bl k) : wrF t bf bl (N - k) k = wrF t bf bl (N - (k + 1)) (k + 1) := by
  rw [show N - k = (N - (k + 1)) + 1 by omega]; simp [wrF, h1, h2]
theorem wrF_b {t : sp_T} {bf : Nat → Nat} {bl : Nat → Int32} {N k : Nat} (h : k < N) (h1 : ¬ (bf k < tn t ∧ tlo t (bf k) = bl k)) : wrF t bf bl (N - k) k = nI k := by
  rw [show N - k = (N - (k + 1)) + 1 by omega]; simp [wrF, h1]
def toldN (x : sp_S) : Nat → Int32
  | 0 => nI (td (s_now x))
  | 1 => nI (tn (s_now x))
  | 2 => nI (tw (s_now x))
  | 3 => nI (tm (s_now x))
  | 4 => nI (tt (s_now x))
  | 5 => nI (tr (s_now x))
  | 6 => nI (tpr (s_now x))
  | 7 => sp_wk (s_now x)
  | 8 => bI (sp_safe (s_now x))
  | 9 => sp_mset (s_now x)
  | 10 => if tn (s_now x) = 0 then 0 else sp_frc (s_now x) 0
  | 11 => nI (s_bn x)
  | 12 => sp_wrong x
  | 13 => nI (s_pz x)
  | _ => -1000000002
def o_told (x : sp_S) (w : Int32) : Int32 := match swI w 13 with
  | some k => toldN x k
  | none => -1000000002
def floorN (t : sp_T) (j : Nat) : Nat → Int32
  | 0 => nI (sp_age t j)
  | 1 => nI (tsl t j)
  | 2 => nI (sp_str t j)
  | 3 => tlo t j + nI 1000
  | 4 => bI (sp_pp t j)
  | 5 => sp_frc t j + nI 1000
  | 6 => nI (sp_low t j)
  | 7 => nI (sp_hi t j)
  | 8 => bI (sp_gr t j)
  | 9 => sp_er t j
  | 10 => sp_hm t j
  | _ => -1000000002
def floorW (t : sp_T) (j : Nat) (w : Int32) : Int32 := match swI w 10 with
  | some k => floorN t j k
  | none => -1000000002
def o_floor (t : sp_T) (i w : Int32) : Int32 := if sp_has i (tn t) then floorW t i.toNatClampNeg w else -1000000001
def o_hun (tb r : Int32) : Int32 := if sp_inI tb (nI 0) (nI 2) && sp_inI r (nI 0) (nI 999) then nI (sp_pct tb.toNatClampNeg r.toNatClampNeg) else -1000000002
def o_would (t : sp_T) (i f : Int32) : Int32 := if sp_has i (tn t) && sp_has f (tn t) && sp_pp t i.toNatClampNeg then tlo (sp_stk t i.toNatClampNeg) f.toNatClampNeg + nI 1000 else -1000000001
/-- LEAST CYCLE -/
def pcS (a k s : Nat) : Nat := if a.testBit k then s + 1 else s
def pcN (a : Nat) : Nat := lp (pcS a) 8 0 0
def cy1 (m : Nat) (t : sp_T) : Option sp_T := if pcN (tpr t) = m then (if sp_safe (sp_stk t (sp_lop t)) then some (sp_stk t (sp_lop t)) else none) else some t
def cy2 (t : sp_T) : Option sp_T := if sp_safe (sp_pour t) then some (sp_pour t) else none
def cyS (m c k : Nat) (o : Option sp_T) : Option sp_T := (o.bind fun t => cy1 m (sp_setd t (k * c))).bind cy2
def sp_hold (t : sp_T) (m c : Nat) : Bool := (lp (cyS m c) 8 0 (some (sp_clr t))).isSome
def cyF (t : sp_T) (m : Nat) : Nat → Nat → Int32
  | 0, _ => -1
  | f + 1, c => if sp_hold t m c then nI c else cyF t m f (c + 1)
def o_cycle (t : sp_T) (m : Int32) : Int32 := if sp_inI m (nI 1) (nI 3) then cyF t m.toNatClampNeg 28 1 else -1000000002
/-- deeds: the answer, and what is so then -/
def o_days (x : sp_S) (n : Int32) : Int32 × sp_S := if sp_inI n (nI 1) (nI 60) then (nI (td (s_now x) + n.toNatClampNeg), sp_setn (sp_note x) (sp_setd (s_now x) (td (s_now x) + n.toNatClampNeg))) else (-1000000002, x)
def o_pour (x : sp_S) : Int32 × sp_S := if tn (s_now x) = 8 then (-1000000004, x) else if sp_safe (sp_pour (s_now x)) then (nI (tn (s_now x)), sp_setn (sp_note x) (sp_pour (s_now x))) else (-1000000003, x)
def o_strike (x : sp_S) (i : Int32) : Int32 × sp_S := if sp_has i (tn (s_now x)) then (if sp_ms (s_now x) i.toNatClampNeg then (nI (sp_low (sp_stk (s_now x) i.toNatClampNeg) i.toNatClampNeg), sp_setn (sp_note x) (sp_stk (s_now x) i.toNatClampNeg)) else (-1000000003, x)) else (-1000000001, x)
def o_back (x : sp_S) (i : Int32) : Int32 × sp_S := if sp_has i (tn (s_now x)) then (if sp_pp (s_now x) i.toNatClampNeg then (-1000000003, x) else (nI (sp_low (sp_on (s_now x) i.toNatClampNeg) i.toNatClampNeg), sp_setn (sp_note x) (sp_on (s_now x) i.toNatClampNeg))) else (-1000000001, x)
def o_slow (x : sp_S) (i v : Int32) : Int32 × sp_S := if sp_has i (tn (s_now x)) then (if sp_inI v (nI 0) (nI 9) then (nI (tsl (s_now x) i.toNatClampNeg), sp_setn (sp_note x) (sp_setsl (s_now x) (updN (tsl (s_now x)) i.toNatClampNeg v.toNatClampNeg))) else (-1000000002, x)) else (-1000000001, x)
def sp_bget (t : sp_T) : Nat → Nat
  | 0 => tw t
  | 1 => tm t
  | 2 => tt t
  | _ => tr t
def sp_bset (t : sp_T) (k v : Nat) : sp_T := (td t, tn t, if k = 0 then v else tw t, if k = 1 then v else tm t, if k = 2 then v else tt t, if k = 3 then v else tr t, tpo t, tsl t, tlo t, tpr t)
def sp_bok (w v : Int32) : Bool := (decide (w = nI 0) && sp_inI v (nI 1) (nI 50)) || (decide (w = nI 1) && sp_inI v (nI 1) (nI 400)) || ((decide (w = nI 2) || decide (w = nI 3)) && sp_inI v (nI 0) (nI 2))
def o_bound (x : sp_S) (w v : Int32) : Int32 × sp_S := if sp_bok w v then (if w = nI 0 ∧ 0 < tn (s_now x) then (-1000000003, x) else (nI (sp_bget (s_now x) w.toNatClampNeg), sp_setn (sp_note x) (sp_bset (s_now x) w.toNatClampNeg v.toNatClampNeg))) else (-1000000002, x)
def o_clear (x : sp_S) : Int32 × sp_S := (nI (tn (s_now x)), sp_setn (sp_note x) (sp_clr (s_now x)))
/-- draws -/
def sp_nx (s : Nat) : Nat := (s * 1103515245 + 12345) % 2147483648
def sp_dr (t : sp_T) (w i m : Nat) : sp_T := if w < 2 then sp_setd t (td t + m) else if w = 2 then (if sp_mp t then sp_pour t else t) else if w = 3 then (if sp_msx t (nI i) then sp_stk t i else t) else if i < tn t then sp_on t i else t
def sp_d3 (s : Nat) : Nat := sp_nx (sp_nx (sp_nx s))
def sp_sets (x : sp_S) (s : Nat) : sp_S := (x.1, x.2.1, x.2.2.1, x.2.2.2.1, x.2.2.2.2.1, x.2.2.2.2.2.1, x.2.2.2.2.2.2.1, x.2.2.2.2.2.2.2.1, x.2.2.2.2.2.2.2.2.1, s)
def sp_d1 (_ : Nat) (x : sp_S) : sp_S := sp_sets (sp_setn (sp_note x) (sp_dr (s_now x) (sp_nx (s_sd x) / 65536 % 5) (sp_nx (sp_nx (s_sd x)) / 65536 % 8) (sp_d3 (s_sd x) / 65536 % 10))) (sp_d3 (s_sd x))
def o_drift (x : sp_S) (n : Int32) : Int32 × sp_S := if sp_inI n (nI 1) (nI 20) then (nI (tn (s_now (lp sp_d1 n.toNatClampNeg 0 x))), lp sp_d1 n.toNatClampNeg 0 x) else (-1000000002, x)
def sp_undo (x : sp_S) (n : Nat) : sp_S := (s_ph x (n - 1), s_pz x - n, (fun j => s_ph x (j + n)), x.2.2.2)
def o_undo (x : sp_S) (n : Int32) : Int32 × sp_S := if sp_inI n (nI 1) (nI 20) then (if s_pz x < n.toNatClampNeg then (-1000000003, x) else (nI (td (s_ph x (n.toNatClampNeg - 1))), sp_undo x n.toNatClampNeg)) else (-1000000002, x)
def sp_wr (x : sp_S) (j : Nat) (v : Int32) : sp_S := (x.1, x.2.1, x.2.2.1, s_bn x + 1, updN (s_bf x) (s_bn x) j, upd (s_bl x) (s_bn x) v, x.2.2.2.2.2.2)
def o_write (x : sp_S) (i v : Int32) : Int32 × sp_S := if sp_has i (tn (s_now x)) then (if s_bn x = 20 then (-1000000004, x) else (nI (s_bn x + 1), sp_wr x i.toNatClampNeg v)) else (-1000000001, x)
def o_tear (x : sp_S) : Int32 × sp_S := (nI (s_bn x), (x.1, x.2.1, x.2.2.1, 0, x.2.2.2.2))
def o_seed (x : sp_S) (v : Int32) : Int32 × sp_S := if v < 0 then (-1000000002, x) else (nI (s_sd x), sp_sets x v.toNatClampNeg)
def sp_keep (x : sp_S) (i : Nat) : sp_S := (s_now x, 0, s_ph x, s_bn x, s_bf x, s_bl x, (fun j => if j = i then true else s_ik x j), (fun j => if j = i then s_now x else s_im x j), updN (s_is x) i (s_sd x), s_sd x)
def o_keep (x : sp_S) (i : Int32) : Int32 × sp_S := if sp_inI i (nI 0) (nI 1) then (nI 1, sp_keep x i.toNatClampNeg) else (-1000000001, x)
def sp_goB (x : sp_S) (i : Nat) : sp_S := (s_im x i, 0, s_ph x, s_bn x, s_bf x, s_bl x, s_ik x, s_im x, s_is x, s_is x i)
def o_goB (x : sp_S) (i : Int32) : Int32 × sp_S := if sp_inI i (nI 0) (nI 1) then (if s_ik x i.toNatClampNeg then (nI 1, sp_goB x i.toNatClampNeg) else (-1000000003, x)) else (-1000000001, x)
/-- what holds of the system, with days up to B -/
def sp_J (x : sp_S) (B : Nat) : Prop := (sp_I (s_now x) ∧ td (s_now x) ≤ B) ∧ s_pz x ≤ 20 ∧ (∀ j, j < s_pz x → sp_I (s_ph x j) ∧ td (s_ph x j) ≤ B) ∧ s_bn x ≤ 20 ∧ (∀ k, k < s_bn x → s_bf x k < 8) ∧ (∀ i, i < 2 → s_ik x i = true → (sp_I (s_im x i) ∧ td (s_im x i) ≤ B) ∧ s_is x i < 2 ^ 31) ∧ s_sd x < 2 ^ 31
def sp_x0 : sp_S := ((0, 0, 20, 60, 0, 0, (fun _ => 0), (fun _ => 0), (fun _ => 0), 0), 0, (fun _ => (0, 0, 20, 60, 0, 0, (fun _ => 0), (fun _ => 0), (fun _ => 0), 0)), 0, (fun _ => 0), (fun _ => 0), (fun _ => false), (fun _ => (0, 0, 20, 60, 0, 0, (fun _ => 0), (fun _ => 0), (fun _ => 0), 0)), (fun _ => 0), 0)
