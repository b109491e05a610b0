/-! ===== the reference holds the system ===== -/
def sp_M (v : sp_V) (x : sp_S) : Prop := sp_Rm v.1 (s_now x) ∧ v.2.2.2.1 = nI (s_pz x) ∧ (∀ j, j < s_pz x → sp_Rm (fun k => v.2.2.1 (38 * (s_pz x - 1 - j) + k)) (s_ph x j)) ∧ v.2.2.2.2.2.2.2.2.2.1 = nI (s_bn x) ∧ (∀ k, k < s_bn x → v.2.2.2.2.2.2.2.2.1 (2 * k) = nI (s_bf x k) ∧ v.2.2.2.2.2.2.2.2.1 (2 * k + 1) = s_bl x k) ∧ (∀ i, i < 2 → v.2.2.2.2.2.2.1 i = bI (s_ik x i)) ∧ (∀ i, i < 2 → s_ik x i = true → sp_Rm (fun k => v.2.2.2.2.1 (38 * i + k)) (s_im x i) ∧ v.2.2.2.2.2.1 i = lN (s_is x i)) ∧ v.2.2.2.2.2.2.2.1 = lN (s_sd x)
theorem sp_M.now {v : sp_V} {x : sp_S} (h : sp_M v x) : sp_Rm v.1 (s_now x) := h.1
theorem sp_M.dee {v : sp_V} {x : sp_S} (h : sp_M v x) : v.2.2.2.1 = nI (s_pz x) := h.2.1
theorem sp_M.pas {v : sp_V} {x : sp_S} (h : sp_M v x) {j : Nat} (hj : j < s_pz x) : sp_Rm (fun k => v.2.2.1 (38 * (s_pz x - 1 - j) + k)) (s_ph x j) := h.2.2.1 j hj
theorem sp_M.ent {v : sp_V} {x : sp_S} (h : sp_M v x) : v.2.2.2.2.2.2.2.2.2.1 = nI (s_bn x) := h.2.2.2.1
theorem sp_M.bf {v : sp_V} {x : sp_S} (h : sp_M v x) {k : Nat} (hk : k < s_bn x) : v.2.2.2.2.2.2.2.2.1 (2 * k) = nI (s_bf x k) := (h.2.2.2.2.1 k hk).1
theorem sp_M.bl {v : sp_V} {x : sp_S} (h : sp_M v x) {k : Nat} (hk : k < s_bn x) : v.2.2.2.2.2.2.2.2.1 (2 * k + 1) = s_bl x k := (h.2.2.2.2.1 k hk).2
theorem sp_M.kep {v : sp_V} {x : sp_S} (h : sp_M v x) {i : Nat} (hi : i < 2) : v.2.2.2.2.2.2.1 i = bI (s_ik x i) := h.2.2.2.2.2.1 i hi
theorem sp_M.img {v : sp_V} {x : sp_S} (h : sp_M v x) {i : Nat} (hi : i < 2) (hk : s_ik x i = true) : sp_Rm (fun k => v.2.2.2.2.1 (38 * i + k)) (s_im x i) := (h.2.2.2.2.2.2.1 i hi hk).1
theorem sp_M.ise {v : sp_V} {x : sp_S} (h : sp_M v x) {i : Nat} (hi : i < 2) (hk : s_ik x i = true) : v.2.2.2.2.2.1 i = lN (s_is x i) := (h.2.2.2.2.2.2.1 i hi hk).2
theorem sp_M.see {v : sp_V} {x : sp_S} (h : sp_M v x) : v.2.2.2.2.2.2.2.1 = lN (s_sd x) := h.2.2.2.2.2.2.2
theorem sp_M_set {v : sp_V} {x : sp_S} (h : sp_M v x) {t : sp_T} {f as pt : Nat → Int32} (hf : sp_Rm f t) : sp_M (f, as, v.2.2.1, v.2.2.2.1, v.2.2.2.2.1, v.2.2.2.2.2.1, v.2.2.2.2.2.2.1, v.2.2.2.2.2.2.2.1, v.2.2.2.2.2.2.2.2.1, v.2.2.2.2.2.2.2.2.2.1, pt) (sp_setn x t) := ⟨hf, h.2⟩
theorem sp_M_ext {v : sp_V} {x : sp_S} (h : sp_M v x) (hn : tn (s_now x) ≤ 8) {f as pt : Nat → Int32} (hf : ∀ j, j < 38 → f j = v.1 j) : sp_M (f, as, v.2.2.1, v.2.2.2.1, v.2.2.2.2.1, v.2.2.2.2.2.1, v.2.2.2.2.2.2.1, v.2.2.2.2.2.2.2.1, v.2.2.2.2.2.2.2.2.1, v.2.2.2.2.2.2.2.2.2.1, pt) x := ⟨sp_Rm_ext h.1 hn hf, h.2⟩
theorem sp_J.now {x : sp_S} {B : Nat} (h : sp_J x B) : sp_I (s_now x) := h.1.1
theorem sp_J.d {x : sp_S} {B : Nat} (h : sp_J x B) : td (s_now x) ≤ B := h.1.2
theorem sp_J.pz {x : sp_S} {B : Nat} (h : sp_J x B) : s_pz x ≤ 20 := h.2.1
theorem sp_J.ph {x : sp_S} {B : Nat} (h : sp_J x B) {j : Nat} (hj : j < s_pz x) : sp_I (s_ph x j) ∧ td (s_ph x j) ≤ B := h.2.2.1 j hj
theorem sp_J.bn {x : sp_S} {B : Nat} (h : sp_J x B) : s_bn x ≤ 20 := h.2.2.2.1
theorem sp_J.bf {x : sp_S} {B : Nat} (h : sp_J x B) {k : Nat} (hk : k < s_bn x) : s_bf x k < 8 := h.2.2.2.2.1 k hk
theorem sp_J.im {x : sp_S} {B : Nat} (h : sp_J x B) {i : Nat} (hi : i < 2) (hk : s_ik x i = true) : sp_I (s_im x i) ∧ td (s_im x i) ≤ B := (h.2.2.2.2.2.1 i hi hk).1
theorem sp_J.is {x : sp_S} {B : Nat} (h : sp_J x B) {i : Nat} (hi : i < 2) (hk : s_ik x i = true) : s_is x i < 2 ^ 31 := (h.2.2.2.2.2.1 i hi hk).2
theorem sp_J.sd {x : sp_S} {B : Nat} (h : sp_J x B) : s_sd x < 2 ^ 31 := h.2.2.2.2.2.2
/-- noted: the row of rows -/
theorem sp_M_note {v : sp_V} {x : sp_S} (h : sp_M v x) (hn : tn (s_now x) ≤ 8) (hz8 : ∀ j, j < s_pz x → tn (s_ph x j) ≤ 8) {pn : Nat} (hpn : pn + 1 = min (s_pz x + 1) 20) {f f2 : Nat → Int32} (hf : ∀ j, j < pn → sp_Rm (fun k => f (38 * (pn - 1 - j) + k)) (s_ph x j)) (h1 : ∀ j, j < 38 * pn → f2 j = f j) (h2 : ∀ j, j < 38 → f2 (38 * pn + j) = v.1 j) :
    sp_M (v.1, v.2.1, f2, nI (pn + 1), v.2.2.2.2) (sp_note x) := by
  obtain ⟨c0, c1, c2, c3⟩ := h
  refine ⟨c0, congrArg nI hpn, fun j hj => ?_, c3⟩
  have hj' : j < min (s_pz x + 1) 20 := hj
  show sp_Rm (fun k => f2 (38 * (min (s_pz x + 1) 20 - 1 - j) + k)) (if j = 0 then s_now x else s_ph x (j - 1))
  rw [← hpn]
  by_cases hz : j = 0
  · rw [if_pos hz]
    refine sp_Rm_ext c0 hn (fun k hk => ?_)
    show f2 (38 * (pn + 1 - 1 - j) + k) = v.1 k
    rw [show pn + 1 - 1 - j = pn by omega]
    exact h2 k hk
  · rw [if_neg hz]
    refine sp_Rm_ext (hf (j - 1) (by omega)) (hz8 (j - 1) (by omega)) (fun k hk => ?_)
    show f2 (38 * (pn + 1 - 1 - j) + k) = f (38 * (pn - 1 - (j - 1)) + k)
    rw [show pn + 1 - 1 - j = pn - 1 - (j - 1) by omega]
    exact h1 _ (by omega)
theorem sp_M_shift {v : sp_V} {x : sp_S} (h : sp_M v x) (h20 : s_pz x = 20) (hz8 : ∀ j, j < s_pz x → tn (s_ph x j) ≤ 8) {f : Nat → Int32} (hf : ∀ j, j < 722 → f j = v.2.2.1 (j + 38)) : ∀ j, j < 19 → sp_Rm (fun k => f (38 * (19 - 1 - j) + k)) (s_ph x j) := by
  intro j hj
  refine sp_Rm_ext (h.pas (by omega)) (hz8 j (by omega)) (fun k hk => ?_)
  show f (38 * (19 - 1 - j) + k) = v.2.2.1 (38 * (s_pz x - 1 - j) + k)
  rw [hf _ (by omega), show 38 * (19 - 1 - j) + k + 38 = 38 * (s_pz x - 1 - j) + k by omega]
/-- long numbers -/
theorem sp_lI {a : Nat} (h : a < 2 ^ 63) : (lN a).toInt = (a : Int) := Int64.toInt_ofNat_of_lt h
theorem sp_ldiv {a b : Nat} (ha : a < 2 ^ 63) (hb : b < 2 ^ 63) (h0 : 0 < b) : lN a / lN b = lN (a / b) := by
  apply Int64.toInt_inj.mp
  have hq : a / b < 2 ^ 63 := Nat.lt_of_le_of_lt (Nat.div_le_self a b) ha
  rw [Int64.toInt_div_of_ne_right _ _ (by
    intro hc
    have := congrArg Int64.toInt hc
    rw [sp_lI hb] at this
    have h1 : (-1 : Int64).toInt = -1 := by decide
    omega), sp_lI ha, sp_lI hb, sp_lI hq, Int.tdiv_eq_ediv_of_nonneg (by omega)]
  rfl
theorem sp_lrem {a b : Nat} (ha : a < 2 ^ 63) (hb : b < 2 ^ 63) (h0 : 0 < b) : lN a - lN a / lN b * lN b = lN (a % b) := by
  have h := Nat.div_mul_le_self a b
  rw [sp_ldiv ha hb h0, lN_mul, lN_sub h]
  congr 1
  have := Nat.div_add_mod a b
  rw [Nat.mul_comm] at this
  omega
theorem sp_lne63 {a : Nat} (h0 : 0 < a) (h : a < 2 ^ 63) : ¬ lN a = 0 := by
  intro hc
  have := congrArg Int64.toInt hc
  rw [sp_lI h] at this
  have h1 : (0 : Int64).toInt = 0 := by decide
  omega
theorem sp_nx_lt (s : Nat) : sp_nx s < 2 ^ 31 := Nat.mod_lt _ (by decide)
/-- LEAST CYCLE -/
def sp_R4 (f : Nat → Int32) (t : sp_T) : Prop := f 2 = nI (tw t) ∧ f 3 = nI (tm t) ∧ f 4 = nI (tt t) ∧ f 5 = nI (tr t)
def sp_sm (r t : sp_T) : Prop := tw r = tw t ∧ tm r = tm t ∧ tt r = tt t ∧ tr r = tr t
theorem sp_R4_of {f : Nat → Int32} {r t : sp_T} (h : sp_Rm f r) (hs : sp_sm r t) : sp_R4 f t := ⟨hs.1 ▸ h.w, hs.2.1 ▸ h.m, hs.2.2.1 ▸ h.t, hs.2.2.2 ▸ h.r⟩
theorem sp_sm_shr {r t : sp_T} (h : sp_sm r t) (i : Nat) (q : Int32) : sp_sm (sp_shr r i q) t := by unfold sp_shr; split <;> exact h
theorem sp_sm_stk {r t : sp_T} (h : sp_sm r t) (i : Nat) : sp_sm (sp_stk r i) t := by
  unfold sp_stk sp_stk1; split
  · exact sp_sm_shr (r := sp_off r i) h _ _
  · exact sp_sm_shr (sp_sm_shr (r := sp_off r i) h _ _) _ _
theorem sp_sm_pour {r t : sp_T} (h : sp_sm r t) : sp_sm (sp_pour r) t := sp_sm_shr (r := sp_new r) h _ _
theorem sp_R4_upd {f : Nat → Int32} {t : sp_T} (h : sp_R4 f t) {k : Nat} (hk : k < 2) (x : Int32) : sp_R4 (upd f k x) t := by
  obtain ⟨a, b, c, d⟩ := h
  exact ⟨(sp_upd_n (by omega)).trans a, (sp_upd_n (by omega)).trans b, (sp_upd_n (by omega)).trans c, (sp_upd_n (by omega)).trans d⟩
theorem sp_Rm_clr {f : Nat → Int32} {t : sp_T} (h : sp_R4 f t) : sp_Rm (upd (upd f 0 (nI 0)) 1 (nI 0)) (sp_clr t) := by
  obtain ⟨a, b, c, d⟩ := h
  exact ⟨rfl, rfl, a, b, c, d, fun k hk => absurd hk (Nat.not_lt_zero k)⟩
theorem sp_Rm_clr2 {f : Nat → Int32} {t : sp_T} (h : sp_R4 f t) : sp_Rm (upd (upd f 1 (nI 0)) 0 (nI 0)) (sp_clr t) := by
  obtain ⟨a, b, c, d⟩ := h
  exact ⟨rfl, rfl, a, b, c, d, fun k hk => absurd hk (Nat.not_lt_zero k)⟩
theorem sp_shr_d (t : sp_T) (i : Nat) (q : Int32) : td (sp_shr t i q) = td t := by unfold sp_shr; split <;> rfl
theorem sp_stk_d (t : sp_T) (i : Nat) : td (sp_stk t i) = td t := by
  unfold sp_stk; split
  · exact sp_shr_d _ _ _
  · exact (sp_shr_d _ _ _).trans (sp_shr_d _ _ _)
theorem sp_pour_d (t : sp_T) : td (sp_pour t) = td t := sp_shr_d _ _ _
theorem cy_none (m c n k : Nat) : lp (cyS m c) n k none = none := by
  induction n generalizing k with
  | zero => rfl
  | succ n ih => exact ih (k + 1)
/-- rows of props counted from above, the lowest of them -/
def cntF (a j : Nat) : Nat := lp (pcS a) j 0 0
theorem lp_succ {σ : Type} (f : Nat → σ → σ) (n k : Nat) (s : σ) : lp f (n + 1) k s = f (k + n) (lp f n k s) := by
  induction n generalizing k s with
  | zero => rfl
  | succ n ih =>
    show lp f (n + 1) (k + 1) (f k s) = f (k + (n + 1)) (lp f n (k + 1) (f k s))
    rw [ih, show k + 1 + n = k + (n + 1) by omega]
theorem cntF_s (a j : Nat) : cntF a (j + 1) = if a.testBit j then cntF a j + 1 else cntF a j := by
  unfold cntF; rw [lp_succ, Nat.zero_add]; rfl
theorem cntF_8 {a n : Nat} (h : a < 2 ^ n) (hn : n ≤ 8) : cntF a n = pcN a := by
  have key : ∀ d, cntF a (n + d) = cntF a n := by
    intro d
    induction d with
    | zero => rfl
    | succ d ih => rw [show n + (d + 1) = (n + d) + 1 by omega, cntF_s, sp_bitn h (by omega), ih]; rfl
  have := key (8 - n)
  rw [show n + (8 - n) = 8 by omega] at this
  exact this.symm
theorem cntF_0 {a n : Nat} (h : ∀ j, j < n → a.testBit j = false) : cntF a n = 0 := by
  induction n with
  | zero => rfl
  | succ n ih => rw [cntF_s, h n (by omega), ih (fun j hj => h j (by omega))]; rfl
theorem lpF_at {pr : Nat → Bool} (N l k : Nat) (h1 : k ≤ l) (h2 : l < k + N) (hl : pr l = true) (hb : ∀ j, k ≤ j → j < l → pr j = false) : lpF pr N k = l := by
  induction N generalizing k with
  | zero => omega
  | succ N ih =>
    simp only [lpF]
    rcases Nat.eq_or_lt_of_le h1 with h | h
    · subst h; rw [hl]; rfl
    · rw [hb k (Nat.le_refl _) h]; exact ih (k + 1) h (by omega) (fun j a b => hb j (by omega) b)
/-- low, counted down to j -/
def sp_lw (a j : Nat) (k : Nat) (z : Int32) : Prop := (z = -1 ∧ ∀ i, j ≤ i → i < k → a.testBit i = false) ∨ ∃ l : Nat, z = nI l ∧ j ≤ l ∧ l < k ∧ a.testBit l = true ∧ ∀ i, j ≤ i → i < l → a.testBit i = false
theorem sp_lw_t {a j k : Nat} {z : Int32} (hj : j + 1 ≤ k) (hb : a.testBit j = true) : sp_lw a j k (nI j) := Or.inr ⟨j, rfl, Nat.le_refl _, by omega, hb, fun i h1 h2 => absurd h1 (by omega)⟩
theorem sp_lw_f {a j k : Nat} {z : Int32} (h : sp_lw a (j + 1) k z) (hb : a.testBit j = false) : sp_lw a j k z := by
  rcases h with ⟨h1, h2⟩ | ⟨l, h1, h2, h3, h4, h5⟩
  · refine Or.inl ⟨h1, fun i a1 a2 => ?_⟩
    by_cases hz : i = j
    · rw [hz]; exact hb
    · exact h2 i (by omega) a2
  · refine Or.inr ⟨l, h1, by omega, h3, h4, fun i a1 a2 => ?_⟩
    by_cases hz : i = j
    · rw [hz]; exact hb
    · exact h5 i (by omega) a2
theorem sp_lw_e {t : sp_T} (hI : sp_I t) {z : Int32} (h : sp_lw (tpr t) 0 (tn t) z) (hm : 0 < pcN (tpr t)) : z = nI (sp_lop t) ∧ sp_lop t < tn t := by
  rcases h with ⟨h1, h2⟩ | ⟨l, h1, h2, h3, h4, h5⟩
  · have := cntF_0 (a := tpr t) (n := tn t) (fun j hj => h2 j (Nat.zero_le _) hj)
    rw [cntF_8 hI.pr hI.n] at this
    omega
  · have e : sp_lop t = l := lpF_at (tn t) l 0 h2 (by omega) h4 (fun j _ hj => h5 j (Nat.zero_le _) hj)
    rw [e]; exact ⟨h1, h3⟩
theorem sp_pm {j : Nat} (h : j ≤ 8) : nI j - nI 1 < 0 ↔ j = 0 := by
  rcases Nat.eq_zero_or_pos j with h0 | h0
  · subst h0; exact ⟨fun _ => rfl, fun _ => by decide⟩
  · rw [sp_sub h0, sp_z_lt (by omega)]; omega
theorem sp_pd (j : Nat) : nI (j + 1) - nI 1 + (-1) = nI j - nI 1 := by
  rw [show nI (j + 1) - nI 1 = nI j from nI_pred j]; exact (Int32.sub_eq_add_neg _ _).symm
