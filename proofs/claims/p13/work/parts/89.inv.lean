/-! WHAT HOLDS BETWEEN CALLS -/
def TLD (V : pvM) : Prop := V 45 27 = V 28 7 ∧ V 45 29 = kd (V 28 9) ∧ (kd (V 28 9) = 1 → V 45 30 = ct (V 28 9)) ∧ V 45 31 = V 39 7
def LI (t : Int) (V : pvM) : Prop := PI V ∧ RI V ∧ RW V ∧ KS V ∧ BG t V ∧ MM V ∧ OUT V ∧ TLD V
def lic : List Nat := [1, 2, 3, 4, 5, 6, 7, 8, 9, 10, 11, 12, 16, 17, 18, 19, 20, 21, 22, 23, 24, 28, 39, 46, 47, 48, 49, 50, 51, 52, 57, 62, 63, 64]
def l45 : List Nat := [1, 7, 10, 21, 24, 27, 29, 30, 31]
theorem MM_keep {cs : List Nat} {V V' : pvM} (h : MM V) (hf : fr cs V V') (hd : ∀ c, c ∈ lic → c ∉ cs) (e10 : V' 45 10 = V 45 10) (e21 : V' 45 21 = V 45 21) (e24 : V' 45 24 = V 45 24) : MM V' := by
  obtain ⟨h1, h2, h3⟩ := h
  have e16 := hf 16 (hd 16 (by decide))
  refine ⟨by rw [e16]; exact h1, by rw [e16, e10]; exact h2, fun h9 => ?_⟩
  rw [e16] at h9
  exact ⟨(h3 h9).1.fr hf (fun c hc => hd c ((by decide : ∀ c, c ∈ lowc → c ∈ lic) c hc)), (h3 h9).2.fr hf (fun c hc => hd c ((by decide : ∀ c, c ∈ [1, 2, 3, 4, 5, 6, 7, 8, 9, 10, 11, 12, 57, 62, 63, 64] → c ∈ lic) c hc)) e21 e24⟩
theorem LI_keep {cs : List Nat} {t t' : Int} {V V' : pvM} (h : LI t V) (hf : fr cs V V') (hd : ∀ c, c ∈ lic → c ∉ cs) (h45 : ∀ i, i ∈ l45 → V' 45 i = V 45 i) (hB : BG t' V') : LI t' V' := by
  obtain ⟨a1, a2, a3, a4, a5, a6, a7, a8⟩ := h
  have e39 := hf 39 (hd 39 (by decide))
  have e28 := hf 28 (hd 28 (by decide))
  have hp : ∀ c, c ∈ prog → V' c = V c := fun c hc => hf c (hd c ((by decide : ∀ c, c ∈ prog → c ∈ lic) c hc))
  refine ⟨PI_of a1 hp, RI_of a2 hp (fun c hc => hf c (hd c ((by decide : ∀ c, c ∈ [46, 47, 48, 49, 50, 51, 52] → c ∈ lic) c hc))) (h45 1 (by decide)) (h45 7 (by decide)), rw_u a3 (hf 17 (hd 17 (by decide))), by unfold KS; rw [e39]; exact a4, hB, MM_keep a6 hf hd (h45 10 (by decide)) (h45 21 (by decide)) (h45 24 (by decide)), ?_, ?_⟩
  · unfold OUT at a7 ⊢; rw [e39, h45 31 (by decide)]; exact a7
  · unfold TLD at a8 ⊢; rw [e39, e28, h45 27 (by decide), h45 29 (by decide), h45 30 (by decide), h45 31 (by decide)]; exact a8
theorem LI_s {t : Int} {V : pvM} (h : LI t V) : LI (t + 1) V := ⟨h.1, h.2.1, h.2.2.1, h.2.2.2.1, BG_s h.2.2.2.2.1, h.2.2.2.2.2.1, h.2.2.2.2.2.2.1, h.2.2.2.2.2.2.2⟩
theorem LI_th {t : Int} {V : pvM} (h : LI t V) : LI (t + 1) (thV V) := LI_keep h (thV_fr V) (by decide) (fun i _ => by rw [thV_fr V 45 (by decide)]) (BG_th h.2.2.2.2.1)
theorem LI_83 {t r : Int} {V : pvM} (h : LI t V) : LI t (pz_u V 83 0 r) := by
  have hf : fr [83] V (pz_u V 83 0 r) := fr_u (by simp)
  exact LI_keep h hf (by decide) (fun i _ => by rw [hf 45 (by decide)]) (bg_u h.2.2.2.2.1 (hf 17 (by decide)) (hf 39 (by decide)) (hf 84 (by decide)))
theorem LI_0 {t c : Int} {V : pvM} (h : LI t V) : LI t (pz_u V 45 0 c) := by
  have hf : fr [45] V (pz_u V 45 0 c) := fr_u (by simp)
  exact LI_keep h hf (by decide) (fun i hi => by rw [pu_row, up_app, if_neg (by intro h0; subst h0; revert hi; decide)]) (bg_u h.2.2.2.2.1 (hf 17 (by decide)) (hf 39 (by decide)) (hf 84 (by decide)))
theorem LI_RM {t : Int} {V : pvM} (h : LI t V) (ht : t ≤ 600) : RM V := RM_of h.2.2.1 h.2.2.2.1.kp h.2.2.2.2.1 ht
/-! what the law makes of a call -/
theorem wz_wL {o : Option pvO} {Q : Nat → Int → pvM → Prop} {R : Int → pvM → Prop} (h : wp o Q) (h0 : ∀ r V, Q 0 r V → R 0 (pz_u V 83 0 r)) (h1 : ∀ r V, Q 1 r V → R 1 V) (h2 : ∀ r V, Q 2 r V → R 2 V) (hb : ∀ t r V, Q t r V → t ≤ 2) : wz (wL o) R := by
  obtain ⟨t, r, V, e1, e2⟩ := h
  have ht := hb t r V e2
  rw [e1]
  match t, ht, e2 with
  | 0, _, e2 => exact ⟨0, 0, _, rfl, rfl, h0 r V e2⟩
  | 1, _, e2 => exact ⟨0, 1, _, rfl, rfl, h1 r V e2⟩
  | 2, _, e2 => exact ⟨0, 2, _, rfl, rfl, h2 r V e2⟩
theorem wz_wL1 {o : Option pvO} {Q : Nat → Int → pvM → Prop} {R : Int → pvM → Prop} (h : wp o Q) (h0 : ∀ r V, Q 0 r V → R 0 (pz_u V 83 0 r)) (h1 : ∀ r V, Q 1 r V → R 1 V) (hb : ∀ t r V, Q t r V → t ≤ 1) : wz (wL1 o) R := by
  obtain ⟨t, r, V, e1, e2⟩ := h
  have ht := hb t r V e2
  rw [e1]
  match t, ht, e2 with
  | 0, _, e2 => exact ⟨0, 0, _, rfl, rfl, h0 r V e2⟩
  | 1, _, e2 => exact ⟨0, 1, _, rfl, rfl, h1 r V e2⟩
/-- both have answered, and alike -/
def SAME (t v r : Int) (V2 : pvM) : Prop := LI t V2 ∧ v = V2 45 0 ∧ (v = 0 → V2 83 0 = r)
theorem wL1_eq {t' : Nat} {r : Int} {V' : pvM} (ht : t' ≤ 1) : wL1 (some (t', r, V')) = wL (some (t', r, V')) := by
  rcases (by omega : t' = 0 ∨ t' = 1) with h | h <;> subst h <;> rfl
section OPS
variable {N : Nat} {t : Int} {V : pvM}
/-- askers -/
theorem ask_ok {oc : Option pvO} {om : pvM → Option pvO} {tg : pvM → Nat} {vl vm : pvM → Int} (h : LI t V) (hc : wp oc (aP (tg V) (vl V) V)) (hm : ∀ V1, LI (t + 1) V1 → wz (om V1) (mP (tg V1) (vm V1) V1)) (h2 : tg V ≤ 2) (hg : ∀ V1, fr [83, 84] V V1 → tg V1 = tg V ∧ vm V1 = vm V) : wz (wL oc) (fun v V1 => wz (om V1) (fun r V2 => LI (t + 1) V2 ∧ v = V2 45 0 ∧ (vl V = vm V → v = 0 → V2 83 0 = r))) := by
  have thr : ∀ k : Nat, k ≠ 0 → tg V = k → wz (om (thV V)) (fun r V2 => LI (t + 1) V2 ∧ ((k : Nat) : Int) = V2 45 0 ∧ (vl V = vm V → ((k : Nat) : Int) = 0 → V2 83 0 = r)) := by
    intro k hk hkt
    refine wp_mono (hm _ (LI_th h)) (fun _ r V2 h9 => ⟨h9.1, ?_⟩)
    obtain ⟨-, rfl, -⟩ := h9
    have := (hg _ ((thV_fr V).mono (by decide))).1
    refine ⟨LI_0 (LI_th h), ?_, fun _ h0 => by omega⟩
    rw [pz_u_eq, this, hkt]
  refine wz_wL hc (fun r V' h9 => ?_) (fun r V' h9 => ?_) (fun r V' h9 => ?_) (fun t' r V' h9 => by rw [h9.1]; exact h2)
  · obtain ⟨h8, h7, -⟩ := h9
    obtain ⟨rfl, rfl⟩ := h7 h8.symm
    have h83 : fr [83] V' (pz_u V' 83 0 (vl V')) := fr_u (by simp)
    have hg' := hg _ (h83.mono (by decide))
    have hL : LI (t + 1) (pz_u V' 83 0 (vl V')) := LI_83 (LI_s h)
    refine wp_mono (hm _ hL) (fun _ r V2 h9 => ⟨h9.1, ?_⟩)
    obtain ⟨-, h5, h6⟩ := h9
    rw [hg'.1, ← h8] at h5 h6
    rw [h5]
    refine ⟨LI_0 hL, by rw [pz_u_eq]; rfl, fun hv _ => ?_⟩
    rw [h6 rfl, hg'.2, pu_off (by decide), pz_u_eq]; exact hv
  · obtain ⟨h8, -, h7⟩ := h9
    rw [h7 (by omega)]
    exact thr 1 (by omega) h8.symm
  · obtain ⟨h8, -, h7⟩ := h9
    rw [h7 (by omega)]
    exact thr 2 (by omega) h8.symm
theorem ask_ok1 {oc : Option pvO} {om : pvM → Option pvO} {tg : pvM → Nat} {vl vm : pvM → Int} (h : LI t V) (hc : wp oc (aP (tg V) (vl V) V)) (hm : ∀ V1, LI (t + 1) V1 → wz (om V1) (mP (tg V1) (vm V1) V1)) (h2 : tg V ≤ 1) (hg : ∀ V1, fr [83, 84] V V1 → tg V1 = tg V ∧ vm V1 = vm V) : wz (wL1 oc) (fun v V1 => wz (om V1) (fun r V2 => LI (t + 1) V2 ∧ v = V2 45 0 ∧ (vl V = vm V → v = 0 → V2 83 0 = r))) := by
  have h9 := ask_ok (om := om) (vm := vm) h hc hm (by omega) hg
  have e9 : wL1 oc = wL oc := by
    obtain ⟨t', r, V', e1, e2⟩ := hc
    rw [e1]
    exact wL1_eq (by rw [e2.1]; exact h2)
  rw [e9]; exact h9
end OPS
