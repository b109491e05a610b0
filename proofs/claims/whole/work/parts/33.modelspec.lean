/-! ===== the reference: what would be, done on its row and taken back ===== -/
theorem sp_Rm_ext {f h : Nat → Int32} {t : sp_T} (hM : sp_Rm f t) (hn : tn t ≤ 8) (he : ∀ j, j < 38 → h j = f j) : sp_Rm h t := by
  obtain ⟨c0, c1, c2, c3, c4, c5, c6⟩ := hM
  refine ⟨(he 0 (by omega)).trans c0, (he 1 (by omega)).trans c1, (he 2 (by omega)).trans c2, (he 3 (by omega)).trans c3, (he 4 (by omega)).trans c4, (he 5 (by omega)).trans c5, fun j hj => ?_⟩
  obtain ⟨d0, d1, d2, d3⟩ := c6 j hj
  exact ⟨(he _ (by omega)).trans d0, (he _ (by omega)).trans d1, (he _ (by omega)).trans d2, (he _ (by omega)).trans d3⟩
theorem sp_pp_new {t : sp_T} {k : Nat} : sp_pp (sp_new t) k = (sp_pp t k || decide (tn t = k)) := sp_ton _ _ _
theorem sp_Rm_new {f : Nat → Int32} {t : sp_T} (hM : sp_Rm f t) : sp_Rm (upd (upd (upd (upd (upd f (6 + 4 * tn t + 0) (nI (td t))) (6 + 4 * tn t + 1) (nI 0)) (6 + 4 * tn t + 2) (nI 0)) (6 + 4 * tn t + 3) (nI 1)) 1 (nI (tn t + 1))) (sp_new t) := by
  obtain ⟨c0, c1, c2, c3, c4, c5, c6⟩ := hM
  have ne : ∀ j, j < 6 → j ≠ 1 → (upd (upd (upd (upd (upd f (6 + 4 * tn t + 0) (nI (td t))) (6 + 4 * tn t + 1) (nI 0)) (6 + 4 * tn t + 2) (nI 0)) (6 + 4 * tn t + 3) (nI 1)) 1 (nI (tn t + 1))) j = f j := fun j hj h1 => by
    rw [sp_upd_n h1, sp_upd_n (by omega), sp_upd_n (by omega), sp_upd_n (by omega), sp_upd_n (by omega)]
  refine ⟨(ne 0 (by omega) (by omega)).trans c0, sp_upd_s, (ne 2 (by omega) (by omega)).trans c2, (ne 3 (by omega) (by omega)).trans c3, (ne 4 (by omega) (by omega)).trans c4, (ne 5 (by omega) (by omega)).trans c5, fun j hj => ?_⟩
  by_cases hz : j = tn t
  · subst hz
    refine ⟨?_, ?_, ?_, ?_⟩
    · rw [sp_upd_n (by omega), sp_upd_n (by omega), sp_upd_n (by omega), sp_upd_n (by omega), sp_upd_s]
      show nI (td t) = nI (updN (tpo t) (tn t) (td t) (tn t)); simp [updN]
    · rw [sp_upd_n (by omega), sp_upd_n (by omega), sp_upd_n (by omega), sp_upd_s]
      show nI 0 = nI (updN (tsl t) (tn t) 0 (tn t)); simp [updN]
    · rw [sp_upd_n (by omega), sp_upd_n (by omega), sp_upd_s]
      show nI 0 = upd (tlo t) (tn t) (nI 0) (tn t); rw [sp_upd_s]
    · rw [sp_upd_n (by omega), sp_upd_s, sp_pp_new, decide_eq_true rfl, Bool.or_true]; rfl
  · obtain ⟨d0, d1, d2, d3⟩ := c6 j (by have : j < tn t + 1 := hj; omega)
    refine ⟨?_, ?_, ?_, ?_⟩
    · rw [sp_upd_n (by omega), sp_upd_n (by omega), sp_upd_n (by omega), sp_upd_n (by omega), sp_upd_n (by omega), d0]
      show nI (tpo t j) = nI (updN (tpo t) (tn t) (td t) j); simp [updN, hz]
    · rw [sp_upd_n (by omega), sp_upd_n (by omega), sp_upd_n (by omega), sp_upd_n (by omega), sp_upd_n (by omega), d1]
      show nI (tsl t j) = nI (updN (tsl t) (tn t) 0 j); simp [updN, hz]
    · rw [sp_upd_n (by omega), sp_upd_n (by omega), sp_upd_n (by omega), sp_upd_n (by omega), sp_upd_n (by omega), d2]
      show tlo t j = upd (tlo t) (tn t) (nI 0) j; rw [sp_upd_n hz]
    · rw [sp_upd_n (by omega), sp_upd_n (by omega), sp_upd_n (by omega), sp_upd_n (by omega), sp_upd_n (by omega), d3, sp_pp_new, decide_eq_false (by omega), Bool.or_false]
theorem sp_Rm_pr {f : Nat → Int32} {t : sp_T} (hM : sp_Rm f t) (i pr : Nat) (b : Bool) (hp : ∀ j, j < tn t → pr.testBit j = if j = i then b else sp_pp t j) : sp_Rm (upd f (6 + 4 * i + 3) (bI b)) (sp_setpr t pr) := by
  obtain ⟨c0, c1, c2, c3, c4, c5, c6⟩ := hM
  have ne : ∀ j, j < 6 → upd f (6 + 4 * i + 3) (bI b) j = f j := fun j hj => sp_upd_n (by omega)
  refine ⟨(ne 0 (by omega)).trans c0, (ne 1 (by omega)).trans c1, (ne 2 (by omega)).trans c2, (ne 3 (by omega)).trans c3, (ne 4 (by omega)).trans c4, (ne 5 (by omega)).trans c5, fun j hj => ?_⟩
  obtain ⟨d0, d1, d2, d3⟩ := c6 j hj
  refine ⟨(sp_upd_n (by omega)).trans d0, (sp_upd_n (by omega)).trans d1, (sp_upd_n (by omega)).trans d2, ?_⟩
  show upd f (6 + 4 * i + 3) (bI b) (6 + 4 * j + 3) = bI (pr.testBit j)
  rw [hp j hj]
  by_cases hz : j = i
  · rw [hz, sp_upd_s, if_pos rfl]
  · rw [sp_upd_n (by omega), if_neg hz]; exact d3
theorem sp_Rm_off {f : Nat → Int32} {t : sp_T} (hM : sp_Rm f t) (hI : sp_I t) {i : Nat} (hi : i < tn t) : sp_Rm (upd f (6 + 4 * i + 3) (nI 0)) (sp_off t i) := by
  have hn := hI.n
  refine sp_Rm_pr hM i _ false (fun j hj => ?_)
  rw [sp_toff _ hI.pr8 i (by omega) j (by omega)]
  by_cases hz : j = i
  · rw [if_pos hz, decide_eq_true hz]; simp
  · rw [if_neg hz, decide_eq_false hz]; simp [sp_pp]
theorem sp_Rm_on {f : Nat → Int32} {t : sp_T} (hM : sp_Rm f t) (i : Nat) : sp_Rm (upd f (6 + 4 * i + 3) (nI 1)) (sp_on t i) := by
  refine sp_Rm_pr hM i _ true (fun j hj => ?_)
  rw [sp_ton]
  by_cases hz : j = i
  · rw [if_pos hz, decide_eq_true hz.symm]; simp
  · rw [if_neg hz, decide_eq_false (fun q => hz q.symm)]; simp [sp_pp]
theorem sp_stk_n (t : sp_T) (i : Nat) : tn (sp_stk t i) = tn t := by
  unfold sp_stk; split
  · exact sp_shr_n _ _ _
  · exact (sp_shr_n _ _ _).trans (sp_shr_n _ _ _)
theorem sp_pour_n (t : sp_T) : tn (sp_pour t) = tn t + 1 := sp_shr_n _ _ _
/-- could props be struck, a floor be poured -/
def sp_ms (t : sp_T) (j : Nat) : Bool := sp_pp t j && sp_safe (sp_stk t j)
def sp_msx (t : sp_T) (x : Int32) : Bool := if sp_has x (tn t) then sp_ms t x.toNatClampNeg else false
theorem sp_msx_n {t : sp_T} (hn : tn t ≤ 8) {j : Nat} (h : j < tn t) : sp_msx t (nI j) = sp_ms t j := by
  unfold sp_msx; rw [sp_has_n hn h, if_pos rfl, sp_c8 (by omega)]
theorem sp_msx_f {t : sp_T} {x : Int32} (h : sp_has x (tn t) = false) : sp_msx t x = false := by
  unfold sp_msx; rw [h]; rfl
def sp_mp (t : sp_T) : Bool := decide (tn t < 8) && sp_safe (sp_pour t)
def sp_mys (t : sp_T) (k : Nat) (a : Int32) : Int32 := if sp_ms t k then a ||| (nI 1 <<< (nI k &&& 31)) else a
theorem sp_mys_t {t : sp_T} {k : Nat} {z : Int32} (h : sp_ms t k = true) : sp_mys t k z = z ||| (nI 1 <<< (nI k &&& 31)) := by unfold sp_mys; rw [h]; rfl
theorem sp_mys_f {t : sp_T} {k : Nat} {z : Int32} (h : sp_ms t k = false) : sp_mys t k z = z := by unfold sp_mys; rw [h]; rfl
def sp_mset (t : sp_T) : Int32 := lp (sp_mys t) (tn t) 0 (nI 0)
/-- the earliest day -/
def erF (t : sp_T) (i : Nat) : Nat → Nat → Int32
  | 0, _ => -1
  | f + 1, n => if sp_ms (sp_setd t (td t + n)) i then nI n else erF t i f (n + 1)
def sp_er (t : sp_T) (i : Nat) : Int32 := erF t i 61 0
theorem erF_t {t : sp_T} {i n : Nat} (h : n < 61) (hm : sp_ms (sp_setd t (td t + n)) i = true) : erF t i (61 - n) n = nI n := by
  rw [show 61 - n = (61 - (n + 1)) + 1 by omega]; simp [erF, hm]
theorem erF_f {t : sp_T} {i n : Nat} (h : n < 61) (hm : sp_ms (sp_setd t (td t + n)) i = false) : erF t i (61 - n) n = erF t i (61 - (n + 1)) (n + 1) := by
  rw [show 61 - n = (61 - (n + 1)) + 1 by omega]; simp [erF, hm]
theorem erF_e {t : sp_T} {i n : Nat} (h : 61 ≤ n) : erF t i (61 - n) n = -1 := by
  rw [show 61 - n = 0 by omega]; rfl
def sp_hm (t : sp_T) (i : Nat) : Int32 := if sp_pp t i then sp_exc (sp_stk t i) + nI 1000 else -1
theorem sp_I_setd {t : sp_T} (hI : sp_I t) {d : Nat} (h1 : td t ≤ d) (h2 : d ≤ 200000) : sp_I (sp_setd t d) := by
  obtain ⟨a1, a2, a3, a4, a5, a6, a7, a8⟩ := hI
  exact ⟨a1, h2, a3, a4, a5, a6, fun k hk => ⟨Nat.le_trans (a7 k hk).1 h1, (a7 k hk).2⟩, a8⟩
theorem sp_Rm_setd {f h : Nat → Int32} {t : sp_T} (hM : sp_Rm f t) (hn : tn t ≤ 8) (d : Nat) (he : ∀ j, j < 38 → 1 ≤ j → h j = f j) : sp_Rm (upd h 0 (nI d)) (sp_setd t d) := by
  obtain ⟨c0, c1, c2, c3, c4, c5, c6⟩ := hM
  have ne : ∀ j, j < 38 → 1 ≤ j → upd h 0 (nI d) j = f j := fun j hj h1 => by rw [sp_upd_n (by omega)]; exact he j hj h1
  refine ⟨sp_upd_s, (ne 1 (by omega) (by omega)).trans c1, (ne 2 (by omega) (by omega)).trans c2, (ne 3 (by omega) (by omega)).trans c3, (ne 4 (by omega) (by omega)).trans c4, (ne 5 (by omega) (by omega)).trans c5, fun j hj => ?_⟩
  have hj8 : j < tn t := hj
  obtain ⟨d0, d1, d2, d3⟩ := c6 j hj
  exact ⟨(ne _ (by omega) (by omega)).trans d0, (ne _ (by omega) (by omega)).trans d1, (ne _ (by omega) (by omega)).trans d2, (ne _ (by omega) (by omega)).trans d3⟩
theorem sp_msk : ∀ a, a < 256 → ∀ k, k < 8 → (if a.testBit k then (a % 2 ^ k) ||| 2 ^ k else a % 2 ^ k) = a % 2 ^ (k + 1) := by decide +kernel
theorem sp_msk_t {a k : Nat} (ha : a < 256) (hk : k < 8) (h : a.testBit k = true) : nI (a % 2 ^ k) ||| (nI 1 <<< (nI k &&& 31)) = nI (a % 2 ^ (k + 1)) := by
  rw [sp_bor _ (Nat.lt_of_le_of_lt (Nat.mod_le _ _) ha) k hk]
  have := sp_msk a ha k hk
  rw [if_pos h] at this
  rw [this]
theorem sp_msk_f {a k : Nat} (ha : a < 256) (hk : k < 8) (h : a.testBit k = false) : nI (a % 2 ^ k) = nI (a % 2 ^ (k + 1)) := by
  have := sp_msk a ha k hk
  rw [if_neg (by rw [h]; decide)] at this
  rw [this]
theorem sp_exs_le {t : sp_T} {k : Nat} {z : Int32} (h : tlo t k - nI (sp_str t k) ≤ z) : sp_exs t k z = z := by unfold sp_exs; rw [if_neg (Int32.not_lt.mpr h)]
theorem sp_exs_gt {t : sp_T} {k : Nat} {z : Int32} (h : ¬ tlo t k - nI (sp_str t k) ≤ z) : sp_exs t k z = tlo t k - nI (sp_str t k) := by unfold sp_exs; rw [if_pos (Int32.not_le.mp h)]
theorem sp_ner {n : Nat} (h : n < 2 ^ 31) : ¬ nI n = -1 := by
  intro hc
  have := congrArg Int32.toInt hc
  rw [nI_toInt h] at this
  have h1 : (-1 : Int32).toInt = -1 := by decide
  omega
theorem sp_ret0 {f h : Nat → Int32} {t : sp_T} (hM : sp_Rm f t) (he : ∀ j, j < 38 → 1 ≤ j → h j = f j) : ∀ j, j < 38 → upd h 0 (nI (td t)) j = f j := by
  intro j hj
  by_cases h6 : j = 0
  · subst h6; rw [sp_upd_s]; exact hM.d.symm
  · rw [sp_upd_n h6]; exact he j hj (by omega)
