/-! ===== the class holds the system ===== -/
abbrev sp_AD : Type := Nat × sp_A × sp_A × sp_A3 × Nat × Nat × Nat × Nat × sp_A × sp_A × Nat × (Nat → sp_A)
abbrev sp_C0 : Type := Nat × Nat × Nat × sp_U × sp_U × sp_BU × Int32 × Int32 × Int32 × Int32 × sp_U × sp_U × (Nat → sp_U)
def xWe (g : sp_G) (x0 : Nat) (aN aT : sp_A) (aB : sp_A3) (ap ai i0 i1 : Nat) (a0 a1 : sp_A) (ar : Nat) (ad : Nat → sp_A) (sd pz nx : Nat) (un ut : sp_U) (ub : sp_BU) (s0 k0 s1 k1 : Int32) (u0 u1 : sp_U) (cs : Nat → sp_U) : va_W :=
  xoW x0 aN aT ap aB.1 ai (nI sd) ++ (twW g aN un ++ (twW g aT ut ++ (bkW g aB ub ++ (poW ap ar (nI nx) (nI pz) ++ (iaW g ai i0 i1 ++ (ioW i0 a0.1 s0 k0 ++ (ioW i1 a1.1 s1 k1 ++ (twW g a0 u0 ++ (twW g a1 u1 ++ (raW g ar ad ++ rgW g ad cs 20))))))))))
def xW (g : sp_G) (K : sp_AD) (c : sp_C0) : va_W := xWe g K.1 K.2.1 K.2.2.1 K.2.2.2.1 K.2.2.2.2.1 K.2.2.2.2.2.1 K.2.2.2.2.2.2.1 K.2.2.2.2.2.2.2.1 K.2.2.2.2.2.2.2.2.1 K.2.2.2.2.2.2.2.2.2.1 K.2.2.2.2.2.2.2.2.2.2.1 K.2.2.2.2.2.2.2.2.2.2.2 c.1 c.2.1 c.2.2.1 c.2.2.2.1 c.2.2.2.2.1 c.2.2.2.2.2.1 c.2.2.2.2.2.2.1 c.2.2.2.2.2.2.2.1 c.2.2.2.2.2.2.2.2.1 c.2.2.2.2.2.2.2.2.2.1 c.2.2.2.2.2.2.2.2.2.2.1 c.2.2.2.2.2.2.2.2.2.2.2.1 c.2.2.2.2.2.2.2.2.2.2.2.2
def sp_RB (u : sp_BU) (x : sp_S) : Prop := u.2.2 = nI (s_bn x) ∧ (∀ k, k < s_bn x → u.1 k = nI (s_bf x k)) ∧ ∀ k, k < s_bn x → u.2.1 k = s_bl x k
def sp_RP (nx : Nat) (cs : Nat → sp_U) (x : sp_S) : Prop := nx < 20 ∧ ∀ j, j < s_pz x → sp_R (cs ((nx + 19 - j) % 20)) (s_ph x j)
def sp_RI (u : sp_U) (s k : Int32) (b : Bool) (t : sp_T) (sd : Nat) : Prop := k = bI b ∧ (b = true → sp_R u t ∧ s = nI sd)
def sp_C (c : sp_C0) (x : sp_S) : Prop := (c.1 = s_sd x ∧ c.2.1 = s_pz x) ∧ sp_R c.2.2.2.1 (s_now x) ∧ sp_RB c.2.2.2.2.2.1 x ∧ sp_RP c.2.2.1 c.2.2.2.2.2.2.2.2.2.2.2.2 x ∧ sp_RI c.2.2.2.2.2.2.2.2.2.2.1 c.2.2.2.2.2.2.1 c.2.2.2.2.2.2.2.1 (s_ik x 0) (s_im x 0) (s_is x 0) ∧ sp_RI c.2.2.2.2.2.2.2.2.2.2.2.1 c.2.2.2.2.2.2.2.2.1 c.2.2.2.2.2.2.2.2.2.1 (s_ik x 1) (s_im x 1) (s_is x 1)
theorem sp_anC {p : Int32 × sp_S} {r : Int32} {y : sp_S} {v : sp_C0} (h : p = (r, y)) (hm : sp_C v y) : r = p.1 ∧ sp_C v p.2 := by subst h; exact ⟨rfl, hm⟩
theorem sp_RP_note {nx : Nat} {cs : Nat → sp_U} {x : sp_S} (h : sp_RP nx cs x) {u : sp_U} (hu : sp_R u (s_now x)) : sp_RP ((nx + 1) % 20) (updU cs nx u) (sp_note x) := by
  refine ⟨Nat.mod_lt _ (by omega), fun j hj => ?_⟩
  have hj' : j < min (s_pz x + 1) 20 := hj
  have h1 := h.1
  show sp_R (updU cs nx u (((nx + 1) % 20 + 19 - j) % 20)) (if j = 0 then s_now x else s_ph x (j - 1))
  unfold updU
  by_cases hz : j = 0
  · rw [if_pos hz, if_pos (by omega)]; exact hu
  · rw [if_neg hz, if_neg (by omega), show ((nx + 1) % 20 + 19 - j) % 20 = (nx + 19 - (j - 1)) % 20 by omega]
    exact h.2 (j - 1) (by omega)
theorem sp_RP_undo {nx : Nat} {cs : Nat → sp_U} {x : sp_S} (h : sp_RP nx cs x) (hz : s_pz x ≤ 20) {n : Nat} (h1 : 1 ≤ n) (h2 : n ≤ s_pz x) : sp_RP ((nx + 20 - n) % 20) cs (sp_undo x n) := by
  refine ⟨Nat.mod_lt _ (by omega), fun j hj => ?_⟩
  have hj' : j < s_pz x - n := hj
  have h0 := h.1
  show sp_R (cs (((nx + 20 - n) % 20 + 19 - j) % 20)) (s_ph x (j + n))
  rw [show ((nx + 20 - n) % 20 + 19 - j) % 20 = (nx + 19 - (j + n)) % 20 by omega]
  exact h.2 (j + n) (by omega)
theorem sp_RP_at {nx : Nat} {cs : Nat → sp_U} {x : sp_S} (h : sp_RP nx cs x) {n : Nat} (h1 : 1 ≤ n) (h2 : n ≤ s_pz x) (hz : s_pz x ≤ 20) : sp_R (cs ((nx + 20 - n) % 20)) (s_ph x (n - 1)) := by
  have h0 := h.1
  rw [show (nx + 20 - n) % 20 = (nx + 19 - (n - 1)) % 20 by omega]
  exact h.2 (n - 1) (by omega)
theorem sp_RP_0 {nx : Nat} {cs : Nat → sp_U} {x : sp_S} (h : nx < 20) (hz : s_pz x = 0) : sp_RP nx cs x := ⟨h, fun j hj => absurd hj (by omega)⟩
theorem sp_RB_write {u : sp_BU} {x : sp_S} (h : sp_RB u x) (j : Nat) (w : Int32) : sp_RB (upd u.1 (s_bn x) (nI j), upd u.2.1 (s_bn x) w, nI (s_bn x + 1)) (sp_wr x j w) := by
  refine ⟨rfl, fun k hk => ?_, fun k hk => ?_⟩
  · have hk' : k < s_bn x + 1 := hk
    show upd u.1 (s_bn x) (nI j) k = nI (updN (s_bf x) (s_bn x) j k)
    unfold updN
    by_cases hz : k = s_bn x
    · rw [if_pos hz, hz, sp_upd_s]
    · rw [if_neg hz, sp_upd_n hz]; exact h.2.1 k (by omega)
  · have hk' : k < s_bn x + 1 := hk
    show upd u.2.1 (s_bn x) w k = upd (s_bl x) (s_bn x) w k
    by_cases hz : k = s_bn x
    · rw [hz, sp_upd_s, sp_upd_s]
    · rw [sp_upd_n hz, sp_upd_n hz]; exact h.2.2 k (by omega)
theorem sp_R_sl {u : sp_U} {t : sp_T} (hR : sp_R u t) (i s : Nat) : sp_R (u.1, u.2.1, upd u.2.2.1 i (nI s), u.2.2.2) (sp_setsl t (updN (tsl t) i s)) := by
  obtain ⟨c1, c2, c3, c4⟩ := hR
  refine ⟨c1, c2, fun k hk => ?_, c4⟩
  show upd u.2.2.1 i (nI s) k = nI (updN (tsl t) i s k)
  unfold updN
  by_cases hz : k = i
  · rw [if_pos hz, hz, sp_upd_s]
  · rw [if_neg hz, sp_upd_n hz]; exact c3 k hk
theorem sp_R_b {u : sp_U} {t : sp_T} (hR : sp_R u t) {k : Nat} (hk : k ≤ 3) (s : Nat) : sp_R (upd u.1 k (nI s), u.2) (sp_bset t k s) := by
  obtain ⟨⟨b0, b1, b2, b3⟩, c⟩ := hR
  refine ⟨⟨?_, ?_, ?_, ?_⟩, c⟩
  · show upd u.1 k (nI s) 0 = nI (if k = 0 then s else tw t)
    by_cases hz : k = 0
    · rw [if_pos hz, hz, sp_upd_s]
    · rw [if_neg hz, sp_upd_n (by omega)]; exact b0
  · show upd u.1 k (nI s) 1 = nI (if k = 1 then s else tm t)
    by_cases hz : k = 1
    · rw [if_pos hz, hz, sp_upd_s]
    · rw [if_neg hz, sp_upd_n (by omega)]; exact b1
  · show upd u.1 k (nI s) 2 = nI (if k = 2 then s else tt t)
    by_cases hz : k = 2
    · rw [if_pos hz, hz, sp_upd_s]
    · rw [if_neg hz, sp_upd_n (by omega)]; exact b2
  · show upd u.1 k (nI s) 3 = nI (if k = 3 then s else tr t)
    by_cases hz : k = 3
    · rw [if_pos hz, hz, sp_upd_s]
    · rw [if_neg hz, sp_upd_n (by omega)]; exact b3
theorem sp_R_bg {u : sp_U} {t : sp_T} (hR : sp_R u t) {k : Nat} (hk : k ≤ 3) : u.1 k = nI (sp_bget t k) := by
  rcases (show k = 0 ∨ k = 1 ∨ k = 2 ∨ k = 3 by omega) with rfl | rfl | rfl | rfl
  · exact hR.b0
  · exact hR.b1
  · exact hR.b2
  · exact hR.b3
theorem sp_le_f {x a : Int32} (h : ¬ x ≤ a) : a < x := Int32.not_le.mp h
theorem sp_le_t {x a : Int32} (h : x ≤ a) : ¬ a < x := Int32.not_lt.mpr h
theorem sp_lt2 {x : Int32} (h : x < nI 2) : ¬ nI 1 < x := by
  intro q
  have h1 := Int32.lt_iff_toInt_lt.mp h
  have h2 := Int32.lt_iff_toInt_lt.mp q
  rw [nI_toInt (by omega)] at h1 h2
  omega
theorem sp_nlt2 {x : Int32} (h : ¬ x < nI 2) : nI 1 < x := by
  refine Int32.lt_iff_toInt_lt.mpr ?_
  have h1 := mt Int32.lt_iff_toInt_lt.mpr h
  rw [nI_toInt (by omega)] at h1 ⊢
  omega
theorem sp_tr (x : Bool) : (if x then (nI 1) else nI 0) = bI x := by cases x <;> rfl
theorem sp_ms_pp {t : sp_T} {j : Nat} (h : sp_ms t j = true) : sp_pp t j = true := by
  unfold sp_ms at h; rw [Bool.and_eq_true] at h; exact h.1
