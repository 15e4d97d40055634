/-! ASKERS -/
theorem RM_of {t : Int} {V : pvM} (hW : RW V) (hK : KP V) (hB : BG t V) (ht : t ≤ 600) : RM V := by
  unfold RW capS at hW
  unfold KP at hK
  unfold BG at hB
  unfold RM
  have e1 : (pv_LC : Int) = 8000 := rfl
  have e2 : (pv_LS : Int) = 1000000 := rfl
  omega
theorem thV_fr (V : pvM) : fr [84] V (thV V) := (fr_u (by simp)).trans (fr_u (by simp))
theorem BG_th {t : Int} {V : pvM} (hB : BG t V) : BG (t + 1) (thV V) := by
  have e17 := thV_fr V 17 (by decide)
  have e39 := thV_fr V 39 (by decide)
  have e0 : thV V 84 0 = V 84 0 + 1 := by unfold thV; rw [pu_app, if_neg (by decide), pz_u_eq]
  have e1 : thV V 84 1 = V 84 1 + 6 := by unfold thV; rw [pz_u_eq]
  unfold BG at hB ⊢
  rw [e17, e39, e0, e1]
  omega
theorem BG_s {t : Int} {V : pvM} (hB : BG t V) : BG (t + 1) V := by
  unfold BG at hB ⊢
  omega
theorem wp_th {e : Nat} {V : pvM} {Q : Nat → Int → pvM → Prop} (hR : RM V) (h : Q e 0 (thV V)) : wp (tH V e) Q := wp_tH hR h
def aP (tag : Nat) (v : Int) (V : pvM) (t : Nat) (r : Int) (V' : pvM) : Prop := t = tag ∧ (tag = 0 → r = v ∧ V' = V) ∧ (tag ≠ 0 → V' = thV V)
theorem aP_ret {tag : Nat} {v r : Int} {V : pvM} (h : tag = 0) (hr : r = v) : aP tag v V 0 r V := ⟨h.symm, fun _ => ⟨hr, rfl⟩, fun h9 => absurd h h9⟩
theorem aP_thr {tag e : Nat} {v r : Int} {V V' : pvM} (h : tag = e) (he : e ≠ 0) (hV : V' = thV V) : aP tag v V e r V' := ⟨h.symm, fun h9 => absurd (h.symm.trans h9) he, fun _ => hV⟩
def mP (tag : Nat) (v : Int) (V : pvM) (r : Int) (V' : pvM) : Prop := V' = pz_u V 45 0 (tag : Int) ∧ (tag = 0 → r = v)
theorem mP_ok {tag : Nat} {v r : Int} {V : pvM} (h : tag = 0) (hr : r = v) : mP tag v V r (pz_u V 45 0 0) := by
  subst h; exact ⟨rfl, fun _ => hr⟩
theorem mP_no1 {tag : Nat} {v r : Int} {V : pvM} (h : tag = 1) : mP tag v V r (pz_u V 45 0 1) := by
  subst h; exact ⟨rfl, fun h9 => absurd h9 (by decide)⟩
theorem mP_no2 {tag : Nat} {v r : Int} {V : pvM} (h : tag = 2) : mP tag v V r (pz_u V 45 0 2) := by
  subst h; exact ⟨rfl, fun h9 => absurd h9 (by decide)⟩
theorem e_goesT {N : Nat} {a b : Int} {V : pvM} (ha : a ≠ 0) (hb : b ≠ 0) : q_X11_goes N a b V = some (0, 1, pz_u V 45 0 0) := wz_to (s_goesT ha hb)
theorem e_goes1 {N : Nat} {a b : Int} {V : pvM} (ha : a = 0) : q_X11_goes N a b V = some (0, 0, pz_u V 45 0 1) := wz_to (s_goes1 ha)
theorem e_goes2 {N : Nat} {a b : Int} {V : pvM} (ha : a ≠ 0) (hb : b = 0) : q_X11_goes N a b V = some (0, 0, pz_u V 45 0 2) := wz_to (s_goes2 ha hb)
theorem e_isMade {N : Nat} {V : pvM} (h : V 16 10 = 0 ∨ V 16 10 = 1) : q_X5_isMade N V = some (0, V 16 10, V) := wz_to (by
  unfold q_X5_isMade
  exact wp_gR (wp_bT h (wp_rT ⟨rfl, rfl, rfl⟩)))
theorem e_classTotal {N : Nat} {V : pvM} : q_X5_classTotal N V = some (0, V 16 9, V) := rfl
/-- both sides know whether the plainer code stands -/
def MM (V : pvM) : Prop := (V 16 10 = 0 ∨ V 16 10 = 1) ∧ V 45 10 = V 16 10 ∧ (V 16 10 = 1 → LOW V ∧ MLW V)
def tg_count (V : pvM) (x : Int) : Nat := if x < 0 ∨ 3 < x then 1 else if 2 ≤ x ∧ V 16 10 = 0 then 2 else 0
def vl_count (V : pvM) (x : Int) : Int := if x = 0 then V 1 6 else if x = 1 then V 2 5 else if x = 2 then V 16 9 else V 2 6
set_option maxHeartbeats 4000000 in
set_option maxRecDepth 100000 in
theorem s_count {N : Nat} {x : Int} {V : pvM} (hR : RM V) (hM : MM V) : wp (q_X10_count N x V) (aP (tg_count V x) (vl_count V x) V) := by
  have hm := hM.1
  unfold q_X10_count
  repeat' (with_reducible first | refine wp_lw ?_ ?_ | refine wp_lI ?_ | refine wp_gR ?_ | refine wp_gW ?_ | refine wp_rT ?_ | refine wp_if (fun h => ?_) (fun h => ?_) | refine wp_bT ?_ ?_ | refine wp_aR ?_ ?_ | refine wp_aW ?_ ?_ | rw [cL_eq (e_isMade hm)] | rw [cL_eq e_recipes] | rw [cL_eq e_letterTotal] | rw [cL_eq e_classTotal] | rw [cL_eq e_total] | rw [cL_eq e_functionTotal] | refine wp_th hR ?_)
  all_goals first | exact aP_thr (by unfold tg_count; (repeat' split) <;> omega) (by decide) rfl | exact aP_ret (by unfold tg_count; (repeat' split) <;> omega) (by unfold vl_count; (repeat' split) <;> omega)
set_option maxHeartbeats 4000000 in
set_option maxRecDepth 100000 in
theorem s_mcount {N : Nat} {x : Int} {V : pvM} (hM : MM V) (hI : RI V) : wz (q_X11_count N x V) (mP (tg_count V x) (vl_count V x) V) := by
  have hm := hM.1
  have hm2 := hM.2.1
  have i1 := hI.1
  have i7 := hI.2.2.2.2.2.2.1
  have hL : V 16 10 = 1 → V 45 21 = V 16 9 ∧ V 45 24 = V 2 6 := fun h => by
    obtain ⟨h1, h2⟩ := hM.2.2 h
    exact ⟨h2.1.trans h1.2.1.symm, h2.2.1⟩
  unfold q_X11_count q_X11_count_b15 q_X11_count_b32
  repeat' (with_reducible first | refine wp_lw ?_ ?_ | refine wp_lI ?_ | refine wp_gR ?_ | refine wp_gW ?_ | refine wp_rT ?_ | refine wp_if (fun h => ?_) (fun h => ?_) | refine wp_bT ?_ ?_ | refine wp_aR ?_ ?_ | refine wp_aW ?_ ?_ | rw [cL_eq (e_goes1 rfl)] | rw [cL_eq (e_goes2 (by decide) rfl)] | rw [cL_eq (e_goesT (by decide) (by decide))])
  all_goals refine ⟨rfl, ?_⟩
  all_goals first | (exfalso; omega) | exact mP_no1 (by unfold tg_count; (repeat' split) <;> omega) | exact mP_no2 (by unfold tg_count; (repeat' split) <;> omega) | exact mP_ok (by unfold tg_count; (repeat' split) <;> omega) (by unfold vl_count; simp only [pu_app]; (repeat' split) <;> omega)
/-! size -/
theorem e_plen {N f : Nat} {V : pvM} (hf : f < 492) : q_X5_lengthOf N f V = some (0, pv_w (V 22 (f + 1) - V 22 f), V) := wz_to (by
  unfold q_X5_lengthOf
  refine wp_lI (wp_lw (by omega) (wp_aR (by omega) (wp_aR (by omega) (wp_lI (wp_rT ⟨rfl, ?_, rfl⟩)))))
  rw [show ((f : Int) + 1).toNat = f + 1 by omega, show ((f : Int)).toNat = f by omega])
theorem e_plainHeightOf {N : Nat} {x : Int} {V : pvM} (h : 0 ≤ x ∧ x < 12) : q_X5_plainHeightOf N x V = some (0, V 26 x.toNat, V) := by unfold q_X5_plainHeightOf; rw [e_aR h]; rfl
theorem e_sourceHeightOf {N : Nat} {x : Int} {V : pvM} (h : 0 ≤ x ∧ x < 12) : q_X5_sourceHeightOf N x V = some (0, V 25 x.toNat, V) := by unfold q_X5_sourceHeightOf; rw [e_aR h]; rfl
def tg_size (V : pvM) (f x : Int) : Nat := if ¬ (0 ≤ f ∧ f < V 1 6) ∨ x < 0 ∨ 3 < x then 1 else if x ≠ 0 ∧ V 16 10 = 0 then 2 else 0
def vl_size (V : pvM) (f x : Int) : Int := if x = 0 then V 9 f.toNat else if x = 1 then ((ps V f.toNat (V 9 f.toNat).toNat : Nat) : Int) else if x = 2 then V 25 f.toNat else V 26 f.toNat
def vm_size (V : pvM) (f x : Int) : Int := if x = 0 then V 9 f.toNat else if x = 1 then ((ps V f.toNat (V 9 f.toNat).toNat : Nat) : Int) else if x = 2 then V 55 f.toNat else V 56 f.toNat
theorem plen_low {N : Nat} {f : Int} {V : pvM} (hP : PI V) (hL : LOW V) (hf : 0 ≤ f ∧ f < V 1 6) : q_X5_lengthOf N f V = some (0, ((ps V f.toNat (V 9 f.toNat).toNat : Nat) : Int), V) := by
  have hn := hP.1
  have h1 := hL.2.2.1 f.toNat (by omega)
  have h2 := SS_le hP hL.1 (f.toNat + 1) (by omega)
  have e := e_plen (N := N) (f := f.toNat) (V := V) (by omega)
  rw [show ((f.toNat : Nat) : Int) = f by omega] at e
  rw [e, h1.1, h1.2.1]
  simp only [SS] at h2 ⊢
  rw [pv_w_id (by omega)]
  rw [show (((SS V f.toNat + ps V f.toNat (V 9 f.toNat).toNat : Nat)) : Int) - ((SS V f.toNat : Nat) : Int) = ((ps V f.toNat (V 9 f.toNat).toNat : Nat) : Int) by omega]
set_option maxHeartbeats 4000000 in
set_option maxRecDepth 100000 in
theorem s_size {N : Nat} {f x : Int} {V : pvM} (hR : RM V) (hP : PI V) (hM : MM V) : wp (q_X10_size N f x V) (aP (tg_size V f x) (vl_size V f x) V) := by
  have hm := hM.1
  have hn := hP.1
  have hL := hM.2.2
  unfold q_X10_size
  by_cases hf : 0 ≤ f ∧ f < V 1 6
  · rw [cL_eq e_hasFunction, if_pos hf]
    repeat' (with_reducible first | refine wp_lw ?_ ?_ | refine wp_lI ?_ | refine wp_gR ?_ | refine wp_gW ?_ | refine wp_rT ?_ | refine wp_if (fun h => ?_) (fun h => ?_) | refine wp_bT ?_ ?_ | refine wp_aR ?_ ?_ | refine wp_aW ?_ ?_ | rw [cL_eq (e_isMade hm)] | rw [cL_eq (plen_low hP (hL (by omega)).1 hf)] | rw [cL_eq (e_plainHeightOf (by omega))] | rw [cL_eq (e_sourceHeightOf (by omega))] | rw [cL_eq (e_lengthOf (by omega))] | refine wp_th hR ?_)
    all_goals first | (exfalso; omega) | exact aP_thr (by unfold tg_size; (repeat' split) <;> omega) (by decide) rfl | exact aP_ret (by unfold tg_size; (repeat' split) <;> omega) (by unfold vl_size; (repeat' split) <;> first | omega | rfl)
  · rw [cL_eq e_hasFunction, if_neg hf, if_pos rfl]
    refine wp_th hR ?_
    exact aP_thr (by unfold tg_size; rw [if_pos (Or.inl hf)]) (by decide) rfl
set_option maxHeartbeats 4000000 in
set_option maxRecDepth 100000 in
theorem s_msize {N : Nat} {f x : Int} {V : pvM} (hP : PI V) (hM : MM V) (hI : RI V) : wz (q_X11_size N f x V) (mP (tg_size V f x) (vm_size V f x) V) := by
  have hm := hM.1
  have hn := hP.1
  have hm2 := hM.2.1
  have i1 := hI.1
  have i3 := hI.2.2.1
  have e_f : q_X11_isFunction N f V = some (0, (if 0 ≤ f ∧ f < V 1 6 then 1 else 0), V) := by rw [← i1]; exact e_misFunction
  have hL : V 16 10 = 1 → (0 ≤ f ∧ f < V 1 6) → V 57 f.toNat = ((ps V f.toNat (V 9 f.toNat).toNat : Nat) : Int) := fun h hf => ((hM.2.2 h).2.2.2.2 f.toNat (by omega)).1
  unfold q_X11_size q_X11_size_b23 q_X11_size_b39
  rw [cL_eq e_f]
  by_cases hf : 0 ≤ f ∧ f < V 1 6
  · rw [if_pos hf]
    repeat' (with_reducible first | refine wp_lw ?_ ?_ | refine wp_lI ?_ | refine wp_gR ?_ | refine wp_gW ?_ | refine wp_rT ?_ | refine wp_if (fun h => ?_) (fun h => ?_) | refine wp_bT ?_ ?_ | refine wp_aR ?_ ?_ | refine wp_aW ?_ ?_ | rw [cL_eq (e_goes1 rfl)] | rw [cL_eq (e_goes2 (by decide) rfl)] | rw [cL_eq (e_goesT (by decide) (by decide))])
    all_goals first | omega | refine ⟨rfl, ?_⟩
    all_goals first | (exfalso; omega) | exact mP_no1 (by unfold tg_size; (repeat' split) <;> omega) | exact mP_no2 (by unfold tg_size; (repeat' split) <;> omega) | refine mP_ok (by unfold tg_size; (repeat' split) <;> omega) ?_
    all_goals (unfold vm_size; rw [pu_off (by decide)]; (try rw [i3]); (repeat' split) <;> first | omega | rfl | exact hL (by omega) hf)
  · rw [if_neg hf]
    repeat' (with_reducible first | refine wp_lw ?_ ?_ | refine wp_lI ?_ | refine wp_gR ?_ | refine wp_gW ?_ | refine wp_rT ?_ | refine wp_if (fun h => ?_) (fun h => ?_) | refine wp_bT ?_ ?_ | refine wp_aR ?_ ?_ | refine wp_aW ?_ ?_ | rw [cL_eq (e_goes1 rfl)])
    all_goals first | omega | refine ⟨rfl, ?_⟩
    all_goals first | (exfalso; omega) | exact mP_no1 (by unfold tg_size; rw [if_pos (Or.inl hf)])
