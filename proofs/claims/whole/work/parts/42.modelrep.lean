/-! ===== answers, case by case ===== -/
theorem o_told_in {x : sp_S} {k : Nat} (h : k ≤ 13) : o_told x (nI k) = toldN x k := by unfold o_told; rw [swI_in h (by omega)]
theorem o_told_out {x : sp_S} {w : Int32} (h : ¬ (0 ≤ w.toInt ∧ w.toInt ≤ 13)) : o_told x w = -1000000002 := by unfold o_told; rw [swI_out h]
theorem o_floor_in {t : sp_T} (hn : tn t ≤ 8) {j k : Nat} (hj : j < tn t) (h : k ≤ 10) : o_floor t (nI j) (nI k) = floorN t j k := by
  unfold o_floor floorW; rw [sp_has_n hn hj, if_pos rfl, swI_in h (by omega), sp_c8 (by omega)]
theorem o_floor_out {t : sp_T} (hn : tn t ≤ 8) {j : Nat} (hj : j < tn t) {w : Int32} (h : ¬ (0 ≤ w.toInt ∧ w.toInt ≤ 10)) : o_floor t (nI j) w = -1000000002 := by
  unfold o_floor floorW; rw [sp_has_n hn hj, if_pos rfl, swI_out h]
theorem o_floor_u {t : sp_T} {i w : Int32} (h : sp_has i (tn t) = false) : o_floor t i w = -1000000001 := by unfold o_floor; rw [h]; rfl
theorem o_hun_in {a b : Nat} (ha : a ≤ 2) (hb : b ≤ 999) : o_hun (nI a) (nI b) = nI (sp_pct a b) := by
  unfold o_hun; rw [sp_inI_n (Nat.zero_le _) ha (by omega), sp_inI_n (Nat.zero_le _) hb (by omega), sp_c8 (by omega), sp_c8 (by omega)]; rfl
theorem o_hun_o1 {a b : Int32} (h : sp_inI a (nI 0) (nI 2) = false) : o_hun a b = -1000000002 := by unfold o_hun; rw [h]; rfl
theorem o_hun_o2 {a b : Int32} (h : sp_inI b (nI 0) (nI 999) = false) : o_hun a b = -1000000002 := by unfold o_hun; rw [h, Bool.and_false]; rfl
theorem o_would_in {t : sp_T} (hn : tn t ≤ 8) {i f : Nat} (hi : i < tn t) (hf : f < tn t) (hp : sp_pp t i = true) : o_would t (nI i) (nI f) = tlo (sp_stk t i) f + nI 1000 := by
  unfold o_would; rw [sp_has_n hn hi, sp_has_n hn hf, sp_c8 (by omega), sp_c8 (by omega), hp]; rfl
theorem o_would_1 {t : sp_T} {i f : Int32} (h : sp_has i (tn t) = false) : o_would t i f = -1000000001 := by unfold o_would; rw [h]; rfl
theorem o_would_2 {t : sp_T} {i f : Int32} (h : sp_has f (tn t) = false) : o_would t i f = -1000000001 := by unfold o_would; rw [h, Bool.and_false]; rfl
theorem o_would_3 {t : sp_T} (hn : tn t ≤ 8) {i : Nat} (hi : i < tn t) {f : Int32} (h : sp_pp t i = false) : o_would t (nI i) f = -1000000001 := by unfold o_would; rw [sp_c8 (by omega), h, Bool.and_false]; rfl
theorem o_days_in {x : sp_S} {n : Nat} (h1 : 1 ≤ n) (h2 : n ≤ 60) : o_days x (nI n) = (nI (td (s_now x) + n), sp_setn (sp_note x) (sp_setd (s_now x) (td (s_now x) + n))) := by
  unfold o_days; rw [sp_inI_n h1 h2 (by omega), if_pos rfl, sp_c8 (by omega)]
theorem o_days_o {x : sp_S} {n : Int32} (h : sp_inI n (nI 1) (nI 60) = false) : o_days x n = (-1000000002, x) := by unfold o_days; rw [h]; rfl
theorem o_strike_u {x : sp_S} {i : Int32} (h : sp_has i (tn (s_now x)) = false) : o_strike x i = (-1000000001, x) := by unfold o_strike; rw [h]; rfl
theorem o_strike_n {x : sp_S} (hn : tn (s_now x) ≤ 8) {i : Nat} (hi : i < tn (s_now x)) (h : sp_ms (s_now x) i = false) : o_strike x (nI i) = (-1000000003, x) := by unfold o_strike; rw [sp_has_n hn hi, if_pos rfl, sp_c8 (by omega), h]; rfl
theorem o_strike_y {x : sp_S} (hn : tn (s_now x) ≤ 8) {i : Nat} (hi : i < tn (s_now x)) (h : sp_ms (s_now x) i = true) : o_strike x (nI i) = (nI (sp_low (sp_stk (s_now x) i) i), sp_setn (sp_note x) (sp_stk (s_now x) i)) := by unfold o_strike; rw [sp_has_n hn hi, if_pos rfl, sp_c8 (by omega), h, if_pos rfl]
theorem o_back_u {x : sp_S} {i : Int32} (h : sp_has i (tn (s_now x)) = false) : o_back x i = (-1000000001, x) := by unfold o_back; rw [h]; rfl
theorem o_back_n {x : sp_S} (hn : tn (s_now x) ≤ 8) {i : Nat} (hi : i < tn (s_now x)) (h : sp_pp (s_now x) i = true) : o_back x (nI i) = (-1000000003, x) := by unfold o_back; rw [sp_has_n hn hi, if_pos rfl, sp_c8 (by omega), h, if_pos rfl]
theorem o_back_y {x : sp_S} (hn : tn (s_now x) ≤ 8) {i : Nat} (hi : i < tn (s_now x)) (h : sp_pp (s_now x) i = false) : o_back x (nI i) = (nI (sp_low (sp_on (s_now x) i) i), sp_setn (sp_note x) (sp_on (s_now x) i)) := by unfold o_back; rw [sp_has_n hn hi, if_pos rfl, sp_c8 (by omega), h]; rfl
theorem o_slow_u {x : sp_S} {i v : Int32} (h : sp_has i (tn (s_now x)) = false) : o_slow x i v = (-1000000001, x) := by unfold o_slow; rw [h]; rfl
theorem o_slow_o {x : sp_S} (hn : tn (s_now x) ≤ 8) {i : Nat} (hi : i < tn (s_now x)) {v : Int32} (h : sp_inI v (nI 0) (nI 9) = false) : o_slow x (nI i) v = (-1000000002, x) := by unfold o_slow; rw [sp_has_n hn hi, if_pos rfl, h]; rfl
theorem o_slow_y {x : sp_S} (hn : tn (s_now x) ≤ 8) {i v : Nat} (hi : i < tn (s_now x)) (h : v ≤ 9) : o_slow x (nI i) (nI v) = (nI (tsl (s_now x) i), sp_setn (sp_note x) (sp_setsl (s_now x) (updN (tsl (s_now x)) i v))) := by unfold o_slow; rw [sp_has_n hn hi, if_pos rfl, sp_inI_n (Nat.zero_le _) h (by omega), if_pos rfl, sp_c8 (by omega), sp_c8 (by omega)]
theorem o_undo_o {x : sp_S} {n : Int32} (h : sp_inI n (nI 1) (nI 20) = false) : o_undo x n = (-1000000002, x) := by unfold o_undo; rw [h]; rfl
theorem o_undo_n {x : sp_S} {n : Nat} (h1 : 1 ≤ n) (h2 : n ≤ 20) (h : s_pz x < n) : o_undo x (nI n) = (-1000000003, x) := by unfold o_undo; rw [sp_inI_n h1 h2 (by omega), if_pos rfl, sp_c8 (by omega), if_pos h]
theorem o_undo_y {x : sp_S} {n : Nat} (h1 : 1 ≤ n) (h2 : n ≤ 20) (h : ¬ s_pz x < n) : o_undo x (nI n) = (nI (td (s_ph x (n - 1))), sp_undo x n) := by unfold o_undo; rw [sp_inI_n h1 h2 (by omega), if_pos rfl, sp_c8 (by omega), if_neg h]
theorem o_write_u {x : sp_S} {i v : Int32} (h : sp_has i (tn (s_now x)) = false) : o_write x i v = (-1000000001, x) := by unfold o_write; rw [h]; rfl
theorem o_write_f {x : sp_S} (hn : tn (s_now x) ≤ 8) {i : Nat} (hi : i < tn (s_now x)) {v : Int32} (h : s_bn x = 20) : o_write x (nI i) v = (-1000000004, x) := by unfold o_write; rw [sp_has_n hn hi, if_pos rfl, if_pos h]
theorem o_write_y {x : sp_S} (hn : tn (s_now x) ≤ 8) {i : Nat} (hi : i < tn (s_now x)) {v : Int32} (h : ¬ s_bn x = 20) : o_write x (nI i) v = (nI (s_bn x + 1), sp_wr x i v) := by unfold o_write; rw [sp_has_n hn hi, if_pos rfl, if_neg h, sp_c8 (by omega)]
theorem o_keep_u {x : sp_S} {i : Int32} (h : sp_inI i (nI 0) (nI 1) = false) : o_keep x i = (-1000000001, x) := by unfold o_keep; rw [h]; rfl
theorem o_keep_y {x : sp_S} {i : Nat} (h : i ≤ 1) : o_keep x (nI i) = (nI 1, sp_keep x i) := by unfold o_keep; rw [sp_inI_n (Nat.zero_le _) h (by omega), if_pos rfl, sp_c8 (by omega)]
theorem o_goB_u {x : sp_S} {i : Int32} (h : sp_inI i (nI 0) (nI 1) = false) : o_goB x i = (-1000000001, x) := by unfold o_goB; rw [h]; rfl
theorem o_goB_n {x : sp_S} {i : Nat} (h : i ≤ 1) (hk : s_ik x i = false) : o_goB x (nI i) = (-1000000003, x) := by unfold o_goB; rw [sp_inI_n (Nat.zero_le _) h (by omega), if_pos rfl, sp_c8 (by omega), hk]; rfl
theorem o_goB_y {x : sp_S} {i : Nat} (h : i ≤ 1) (hk : s_ik x i = true) : o_goB x (nI i) = (nI 1, sp_goB x i) := by unfold o_goB; rw [sp_inI_n (Nat.zero_le _) h (by omega), if_pos rfl, sp_c8 (by omega), hk, if_pos rfl]
/-- an answer that leaves all as it is; one that doesn't -/
theorem sp_an {p : Int32 × sp_S} {r : Int32} {y : sp_S} {v : sp_V} (h : p = (r, y)) (hm : sp_M v y) : r = p.1 ∧ sp_M v p.2 := by subst h; exact ⟨rfl, hm⟩
theorem sp_Rm_sl {f : Nat → Int32} {t : sp_T} (hM : sp_Rm f t) (i s : Nat) : sp_Rm (upd f (6 + 4 * i + 1) (nI s)) (sp_setsl t (updN (tsl t) i s)) := by
  obtain ⟨c0, c1, c2, c3, c4, c5, c6⟩ := hM
  have ne : ∀ j, j < 6 → upd f (6 + 4 * i + 1) (nI s) j = f j := fun j hj => sp_upd_n (by omega)
  refine ⟨(ne 0 (by omega)).trans c0, (ne 1 (by omega)).trans c1, (ne 2 (by omega)).trans c2, (ne 3 (by omega)).trans c3, (ne 4 (by omega)).trans c4, (ne 5 (by omega)).trans c5, fun j hj => ?_⟩
  obtain ⟨d0, d1, d2, d3⟩ := c6 j hj
  refine ⟨(sp_upd_n (by omega)).trans d0, ?_, (sp_upd_n (by omega)).trans d2, (sp_upd_n (by omega)).trans d3⟩
  show upd f (6 + 4 * i + 1) (nI s) (6 + 4 * j + 1) = nI (updN (tsl t) i s j)
  unfold updN
  by_cases hz : j = i
  · rw [hz, sp_upd_s, if_pos rfl]
  · rw [sp_upd_n (by omega), if_neg hz]; exact d1
theorem sp_Rm_b {f : Nat → Int32} {t : sp_T} (hM : sp_Rm f t) {k : Nat} (hk : k ≤ 3) (s : Nat) : sp_Rm (upd f (2 + k) (nI s)) (sp_bset t k s) := by
  obtain ⟨c0, c1, c2, c3, c4, c5, c6⟩ := hM
  refine ⟨(sp_upd_n (by omega)).trans c0, (sp_upd_n (by omega)).trans c1, ?_, ?_, ?_, ?_, fun j hj => ?_⟩
  · show upd f (2 + k) (nI s) 2 = nI (if k = 0 then s else tw t)
    by_cases hz : k = 0
    · rw [if_pos hz, hz]; rfl
    · rw [if_neg hz, sp_upd_n (by omega)]; exact c2
  · show upd f (2 + k) (nI s) 3 = nI (if k = 1 then s else tm t)
    by_cases hz : k = 1
    · rw [if_pos hz, hz]; rfl
    · rw [if_neg hz, sp_upd_n (by omega)]; exact c3
  · show upd f (2 + k) (nI s) 4 = nI (if k = 2 then s else tt t)
    by_cases hz : k = 2
    · rw [if_pos hz, hz]; rfl
    · rw [if_neg hz, sp_upd_n (by omega)]; exact c4
  · show upd f (2 + k) (nI s) 5 = nI (if k = 3 then s else tr t)
    by_cases hz : k = 3
    · rw [if_pos hz, hz]; rfl
    · rw [if_neg hz, sp_upd_n (by omega)]; exact c5
  · obtain ⟨d0, d1, d2, d3⟩ := c6 j hj
    exact ⟨(sp_upd_n (by omega)).trans d0, (sp_upd_n (by omega)).trans d1, (sp_upd_n (by omega)).trans d2, (sp_upd_n (by omega)).trans d3⟩
theorem sp_Rm_bg {f : Nat → Int32} {t : sp_T} (hM : sp_Rm f t) {k : Nat} (hk : k ≤ 3) : f (2 + k) = nI (sp_bget t k) := by
  rcases (show k = 0 ∨ k = 1 ∨ k = 2 ∨ k = 3 by omega) with rfl | rfl | rfl | rfl
  · exact hM.w
  · exact hM.m
  · exact hM.t
  · exact hM.r
