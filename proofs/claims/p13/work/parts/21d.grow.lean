set_option maxHeartbeats 4000000 in
set_option maxRecDepth 100000 in
theorem c_copyOf1 (l : Launch) (D : va_G) (cy : Nat → ClassId) {σ : pzS} {M : pzM} {i L N' : Nat} {x : Int32} (hi : i < σ.1) (hwf : pz_wf σ) (hK : σ.2.1 i = (1, L)) (hx : x.toInt = (N' : Int)) (hb : N' ≤ 1000000) (hle : L < N') : pz_Met l yJ7_copyOf_59c91 cJ7_copyOf_59c91 3 (some (.array .int)) 1 40 1 N' D cy σ M [.ref i, .int x] (fun r σ' M' => r = some (.ref σ.1) ∧ σ' = pz_new σ (1, N') ∧ M' = (va_up (pz_nM σ M).1 σ.1 (va_cpy (M.1 i) (fun _ => 0) 0 0 L), (pz_nM σ M).2)) := by
  have hx9 : x.toInt.toNat = N' := by omega
  have hL9 : (Int32.ofNat L).toInt = (L : Int) := by
    have e : (Int32.size : Nat) = 4294967296 := rfl
    rw [Int32.toInt_ofNat', e, Int.bmod_def]
    omega
  have hne : i ≠ σ.1 := by omega
  have hKn : (pz_new σ (1, N')).2.1 i = (1, L) := by show va_up σ.2.1 σ.1 _ i = _; simp only [va_up, if_neg hne]; exact hK
  have hKs : (pz_new σ (1, N')).2.1 σ.1 = (1, N') := by show va_up σ.2.1 σ.1 _ σ.1 = _; simp [va_up]
  have hMi : (pz_nM σ M).1 i = M.1 i := by show va_up M.1 σ.1 _ i = _; simp only [va_up, if_neg hne]
  have hMs : (pz_nM σ M).1 σ.1 = fun _ => 0 := by show va_up M.1 σ.1 _ σ.1 = _; simp [va_up]
  refine pz_ofW (by decide) (Nat.le_of_ble_eq_true rfl) (fun p e s m args below meth c ad A C hr hnm => ?_)
  refine pz_iload_n C 1 dJ7_copyOf_59c91_0 rfl ?_
  refine pz_aload_n C 0 dJ7_copyOf_59c91_1 rfl ?_
  refine pz_alen (t := 1) C hi (by rw [hK]) (by decide) rfl dJ7_copyOf_59c91_2 ?_
  refine pz_icmp_ne (tgt := 14) C dJ7_copyOf_59c91_3 (by decide) (fun h3 => ?_) (fun h3 => ?_)
  · refine pz_iload_n C 1 dJ7_copyOf_59c91_14 rfl ?_
    refine pz_newarr (t := 1) (N' := N') C dJ7_copyOf_59c91_15 rfl arr_int (Or.inr (Or.inl rfl)) (pv_nn (by omega)) hx9 hb hwf (Nat.le_refl _) trivial ⟨hi, trivial, trivial⟩ (Nat.le_of_ble_eq_true rfl) (Nat.le_of_eq (Nat.zero_add _)) ?_
    refine pz_astore_n (loc' := [(2, .ref σ.1), (0, .ref i), (1, .int x)]) C dJ7_copyOf_59c91_17 (by decide) rfl ?_
    refine pz_aload_n C 1 dJ7_copyOf_59c91_18 rfl ?_
    refine pz_iconst C (v := 0) dJ7_copyOf_59c91_19 (by decide) ?_
    refine pz_aload_n C 0 dJ7_copyOf_59c91_20 rfl ?_
    refine pz_iconst C (v := 0) dJ7_copyOf_59c91_21 (by decide) ?_
    refine pz_aload_n C 1 dJ7_copyOf_59c91_22 rfl ?_
    refine pz_alen (t := 1) C (Nat.lt_succ_of_lt hi) (by rw [hKn]) (by decide) (by rw [hKn]) dJ7_copyOf_59c91_23 ?_
    refine pz_iload_n C 2 dJ7_copyOf_59c91_24 rfl ?_
    refine pz_mmin C ml_J7_304 (Nat.le_of_ble_eq_true rfl) (Nat.le_of_ble_eq_true rfl) (Nat.le_of_eq (Nat.zero_add _)) (Nat.le_of_eq (Nat.zero_add _)) dJ7_copyOf_59c91_25 ?_
    rw [if_neg (show ¬ x < Int32.ofNat L from fun h => by have h9 := Int32.lt_iff_toInt_lt.mp h; rw [hL9, hx] at h9; omega)]
    have hcl : (Int32.ofNat L).toNatClampNeg = L := by show (Int32.ofNat L).toInt.toNat = L; rw [hL9]; omega
    have h0c : (0 : Int32).toNatClampNeg = 0 := rfl
    refine pz_copy (t := 1) (ty := .int) C (Or.inr rfl) (Nat.lt_succ_of_lt hi) (by rw [hKn]) (Nat.lt_succ_self _) (by rw [hKs]) (by decide) (by decide) (pv_nn (by show 0 ≤ (Int32.ofNat L).toInt; omega)) (by rw [hKn, hcl, h0c]; omega) (by rw [hKs, hcl, h0c]; show 0 + L ≤ N'; omega) (fun _ _ => rfl) ml_J7_150 (Nat.le_of_ble_eq_true rfl) (Nat.le_of_ble_eq_true rfl) dJ7_copyOf_59c91_28 ?_
    rw [hcl, h0c, hMi, hMs]
    refine pz_aload_n C 0 dJ7_copyOf_59c91_31 rfl ?_
    exact pz_aret C hr (Or.inr ⟨_, rfl⟩) (Nat.le_of_eq (Nat.zero_add _)) (Nat.le_of_eq (Nat.zero_add _)) dJ7_copyOf_59c91_32 ⟨rfl, rfl, rfl⟩
  · exact absurd h3 (fun h => by rw [hK] at h; rw [h] at hx; have h9 : (Int32.ofNat L).toInt = (N' : Int) := hx; omega)
set_option maxHeartbeats 4000000 in
set_option maxRecDepth 100000 in
theorem c_copyOf0 (l : Launch) (D : va_G) (cy : Nat → ClassId) {σ : pzS} {M : pzM} {i L N' : Nat} {x : Int32} (hi : i < σ.1) (hwf : pz_wf σ) (hK : σ.2.1 i = (0, L)) (hfit : ∀ k, k < L → fits .byte (.int (M.1 i k)) = true) (hx : x.toInt = (N' : Int)) (hb : N' ≤ 1000000) (hle : L < N') : pz_Met l yJ7_copyOf_9075b cJ7_copyOf_9075b 3 (some (.array .byte)) 1 40 1 N' D cy σ M [.ref i, .int x] (fun r σ' M' => r = some (.ref σ.1) ∧ σ' = pz_new σ (0, N') ∧ M' = (va_up (pz_nM σ M).1 σ.1 (va_cpy (M.1 i) (fun _ => 0) 0 0 L), (pz_nM σ M).2)) := by
  have hx9 : x.toInt.toNat = N' := by omega
  have hL9 : (Int32.ofNat L).toInt = (L : Int) := by
    have e : (Int32.size : Nat) = 4294967296 := rfl
    rw [Int32.toInt_ofNat', e, Int.bmod_def]
    omega
  have hne : i ≠ σ.1 := by omega
  have hKn : (pz_new σ (0, N')).2.1 i = (0, L) := by show va_up σ.2.1 σ.1 _ i = _; simp only [va_up, if_neg hne]; exact hK
  have hKs : (pz_new σ (0, N')).2.1 σ.1 = (0, N') := by show va_up σ.2.1 σ.1 _ σ.1 = _; simp [va_up]
  have hMi : (pz_nM σ M).1 i = M.1 i := by show va_up M.1 σ.1 _ i = _; simp only [va_up, if_neg hne]
  have hMs : (pz_nM σ M).1 σ.1 = fun _ => 0 := by show va_up M.1 σ.1 _ σ.1 = _; simp [va_up]
  refine pz_ofW (by decide) (Nat.le_of_ble_eq_true rfl) (fun p e s m args below meth c ad A C hr hnm => ?_)
  refine pz_iload_n C 1 dJ7_copyOf_9075b_0 rfl ?_
  refine pz_aload_n C 0 dJ7_copyOf_9075b_1 rfl ?_
  refine pz_alen (t := 0) C hi (by rw [hK]) (by decide) rfl dJ7_copyOf_9075b_2 ?_
  refine pz_icmp_ne (tgt := 14) C dJ7_copyOf_9075b_3 (by decide) (fun h3 => ?_) (fun h3 => ?_)
  · refine pz_iload_n C 1 dJ7_copyOf_9075b_14 rfl ?_
    refine pz_newarr (t := 0) (N' := N') C dJ7_copyOf_9075b_15 rfl arr_byte (Or.inl rfl) (pv_nn (by omega)) hx9 hb hwf (Nat.le_refl _) trivial ⟨hi, trivial, trivial⟩ (Nat.le_of_ble_eq_true rfl) (Nat.le_of_eq (Nat.zero_add _)) ?_
    refine pz_astore_n (loc' := [(2, .ref σ.1), (0, .ref i), (1, .int x)]) C dJ7_copyOf_9075b_17 (by decide) rfl ?_
    refine pz_aload_n C 1 dJ7_copyOf_9075b_18 rfl ?_
    refine pz_iconst C (v := 0) dJ7_copyOf_9075b_19 (by decide) ?_
    refine pz_aload_n C 0 dJ7_copyOf_9075b_20 rfl ?_
    refine pz_iconst C (v := 0) dJ7_copyOf_9075b_21 (by decide) ?_
    refine pz_aload_n C 1 dJ7_copyOf_9075b_22 rfl ?_
    refine pz_alen (t := 0) C (Nat.lt_succ_of_lt hi) (by rw [hKn]) (by decide) (by rw [hKn]) dJ7_copyOf_9075b_23 ?_
    refine pz_iload_n C 2 dJ7_copyOf_9075b_24 rfl ?_
    refine pz_mmin C ml_J7_304 (Nat.le_of_ble_eq_true rfl) (Nat.le_of_ble_eq_true rfl) (Nat.le_of_eq (Nat.zero_add _)) (Nat.le_of_eq (Nat.zero_add _)) dJ7_copyOf_9075b_25 ?_
    rw [if_neg (show ¬ x < Int32.ofNat L from fun h => by have h9 := Int32.lt_iff_toInt_lt.mp h; rw [hL9, hx] at h9; omega)]
    have hcl : (Int32.ofNat L).toNatClampNeg = L := by show (Int32.ofNat L).toInt.toNat = L; rw [hL9]; omega
    have h0c : (0 : Int32).toNatClampNeg = 0 := rfl
    refine pz_copy (t := 0) (ty := .byte) C (Or.inl rfl) (Nat.lt_succ_of_lt hi) (by rw [hKn]) (Nat.lt_succ_self _) (by rw [hKs]) (by decide) (by decide) (pv_nn (by show 0 ≤ (Int32.ofNat L).toInt; omega)) (by rw [hKn, hcl, h0c]; omega) (by rw [hKs, hcl, h0c]; show 0 + L ≤ N'; omega) (fun k hk => by rw [hMi]; exact hfit _ (by rw [hcl] at hk; rw [h0c]; omega)) ml_J7_150 (Nat.le_of_ble_eq_true rfl) (Nat.le_of_ble_eq_true rfl) dJ7_copyOf_9075b_28 ?_
    rw [hcl, h0c, hMi, hMs]
    refine pz_aload_n C 0 dJ7_copyOf_9075b_31 rfl ?_
    exact pz_aret C hr (Or.inr ⟨_, rfl⟩) (Nat.le_of_eq (Nat.zero_add _)) (Nat.le_of_eq (Nat.zero_add _)) dJ7_copyOf_9075b_32 ⟨rfl, rfl, rfl⟩
  · exact absurd h3 (fun h => by rw [hK] at h; rw [h] at hx; have h9 : (Int32.ofNat L).toInt = (N' : Int) := hx; omega)
/-! NEW CELLS FOR THE ROWS -/
/-- like pv_R, but row r is cp r long -/
def pv_rowsG (cp : Nat → Nat) (V : pvM) (σ : pzS) (M : pzM) : Prop := (∀ r, r < 4 → (pv_j σ r = 18 + r ∨ 84 ≤ pv_j σ r) ∧ pv_j σ r < σ.1 ∧ σ.2.2 17 r = some (pv_j σ r) ∧ σ.2.1 (pv_j σ r) = (1, cp r) ∧ ∀ k, k < cp r → V (18 + r) k = (M.1 (pv_j σ r) k).toInt) ∧ (∀ r t, r < 4 → t < 4 → pv_j σ r = pv_j σ t → r = t)
def pv_RG (cp : Nat → Nat) (V : pvM) (σ : pzS) (M : pzM) : Prop := pz_sh σ ∧ (∀ c k, pv_li c k = true → V c k = (M.1 c k).toInt) ∧ (∀ c k, pv_ll c k = true → V c k = (M.2 c k).toInt) ∧ pv_rowsG cp V σ M ∧ (pv_kept V σ M ∧ (200 ≤ V 39 2 ∧ V 39 2 ≤ 80000)) ∧ (pv_byt V 42 ∧ pv_byt V 43 ∧ pv_byt V 44) ∧ (σ.2.2 28 5 = some (pv_cd σ) ∧ V 28 5 = (pv_cd σ : Int) ∧ (pv_cd σ = 1 ∨ pv_cd σ = 16))
/-- a new cell of kind (t, n) that stands at i, k from now on -/
abbrev pv_ns (σ : pzS) (t n i k : Nat) : pzS := ((pz_new σ (t, n)).1, (pz_new σ (t, n)).2.1, pz_u (pz_new σ (t, n)).2.2 i k (some σ.1))
theorem pv_ns_sh {σ : pzS} {t n i k : Nat} (h : pz_sh σ) (hn : pz_r0 i k = none) : pz_sh (pv_ns σ t n i k) := by
  have h84 := h.1
  have h1 : pz_sh (pz_new σ (t, n)) := by
    obtain ⟨h0, h1, h2, h3⟩ := h
    refine ⟨Nat.le_succ_of_le h0, fun a ha => ?_, fun a ha b hb j hj => ?_, pz_wf_new h3⟩
    · show va_up σ.2.1 σ.1 _ a = _
      simp only [va_up, if_neg (show a ≠ σ.1 by omega)]; exact h1 a ha
    · show va_up σ.2.2 σ.1 _ a b = _
      simp only [va_up, if_neg (show a ≠ σ.1 by omega)]; exact h2 a ha b hb j hj
  exact pv_shC h1 (Nat.lt_succ_self _) hn
theorem pv_ns_r {σ : pzS} {t n i k a b : Nat} (h84 : 84 ≤ σ.1) (ha : a < 84) : (pv_ns σ t n i k).2.2 a b = if a = i ∧ b = k then some σ.1 else σ.2.2 a b := by
  show pz_u (va_up σ.2.2 σ.1 _) i k (some σ.1) a b = _
  by_cases he : a = i ∧ b = k
  · obtain ⟨rfl, rfl⟩ := he
    rw [pz_u_eq, if_pos ⟨rfl, rfl⟩]
  · rw [pz_u_ne _ _ (by omega), if_neg he]
    simp only [va_up, if_neg (show a ≠ σ.1 by omega)]
theorem pv_ns_k {σ : pzS} {t n i k a : Nat} : (pv_ns σ t n i k).2.1 a = if a = σ.1 then (t, n) else σ.2.1 a := rfl
theorem pv_growStep {cp : Nat → Nat} {V : pvM} {σ : pzS} {M : pzM} {r n : Nat} (h : pv_RG cp V σ M) (hr : r < 4) (hz : ∀ k, cp r ≤ k → V (18 + r) k = 0) : pv_RG (va_up cp r n) V (pv_ns σ 1 n 17 r) (va_up (pz_nM σ M).1 σ.1 (va_cpy (M.1 (pv_j σ r)) (fun _ => 0) 0 0 (cp r)), (pz_nM σ M).2) := by
  obtain ⟨h0, h1, h2, hJ, ⟨hj, h4⟩, hb, h5⟩ := h
  have h84 := h0.1
  have mo : ∀ a, a ≠ σ.1 → va_up (pz_nM σ M).1 σ.1 (va_cpy (M.1 (pv_j σ r)) (fun _ => 0) 0 0 (cp r)) a = M.1 a := fun a ha => by show va_up (va_up M.1 σ.1 _) σ.1 _ a = _; simp only [va_up, if_neg ha]
  have mo2 : ∀ a, a ≠ σ.1 → (pz_nM σ M).2 a = M.2 a := fun a ha => by show va_up M.2 σ.1 _ a = _; simp only [va_up, if_neg ha]
  have mn : va_up (pz_nM σ M).1 σ.1 (va_cpy (M.1 (pv_j σ r)) (fun _ => 0) 0 0 (cp r)) σ.1 = va_cpy (M.1 (pv_j σ r)) (fun _ => 0) 0 0 (cp r) := by simp [va_up]
  have ej : ∀ t, t < 4 → pv_j (pv_ns σ 1 n 17 r) t = if t = r then σ.1 else pv_j σ t := by
    intro t ht
    unfold pv_j
    rw [pv_ns_r h84 (by omega)]
    by_cases htr : t = r
    · rw [if_pos ⟨rfl, htr⟩, if_pos htr]; rfl
    · rw [if_neg (fun h => htr h.2), if_neg htr]
  have ek : pv_k (pv_ns σ 1 n 17 r) = pv_k σ := by
    unfold pv_k
    rw [pv_ns_r h84 (by omega), if_neg (by omega)]
  have ec : pv_cd (pv_ns σ 1 n 17 r) = pv_cd σ := by
    unfold pv_cd
    rw [pv_ns_r h84 (by omega), if_neg (by omega)]
  refine ⟨pv_ns_sh h0 (by match r, hr with | 0, _ => rfl | 1, _ => rfl | 2, _ => rfl | 3, _ => rfl), fun a b hab => ?_, fun a b hab => ?_, ⟨fun t ht => ?_, fun t u ht hu hh => ?_⟩, ⟨?_, h4⟩, hb, ?_⟩
  · have := pv_li_lt hab
    show _ = (va_up (pz_nM σ M).1 σ.1 (va_cpy (M.1 (pv_j σ r)) (fun _ => 0) 0 0 (cp r)) a b).toInt
    rw [mo a (by omega)]; exact h1 a b hab
  · have := (pv_ll_lt hab).1
    show _ = ((pz_nM σ M).2 a b).toInt
    rw [mo2 a (by omega)]; exact h2 a b hab
  · rw [ej t ht]
    by_cases htr : t = r
    · subst htr
      rw [if_pos rfl]
      refine ⟨Or.inr h84, Nat.lt_succ_self _, ?_, ?_, fun k hk => ?_⟩
      · rw [pv_ns_r h84 (by omega), if_pos ⟨rfl, rfl⟩]
      · rw [pv_ns_k, if_pos rfl]; simp [va_up]
      · show _ = (va_up (pz_nM σ M).1 σ.1 (va_cpy (M.1 (pv_j σ t)) (fun _ => 0) 0 0 (cp t)) σ.1 k).toInt
        rw [mn]
        unfold va_cpy
        by_cases hk9 : k < cp t
        · rw [if_pos (by omega)]
          rw [(hJ.1 t ht).2.2.2.2 k hk9]
          simp
        · rw [if_neg (by omega), hz k (by omega)]
          rfl
    · rw [if_neg htr]
      obtain ⟨g1, g2, g3, g4, g5⟩ := hJ.1 t ht
      have hup : va_up cp r n t = cp t := by simp only [va_up, if_neg htr]
      refine ⟨g1, Nat.lt_succ_of_lt g2, ?_, ?_, fun k hk => ?_⟩
      · rw [pv_ns_r h84 (by omega), if_neg (fun h => htr h.2)]; exact g3
      · rw [pv_ns_k, if_neg (by omega), hup]; exact g4
      · rw [hup] at hk
        show _ = (va_up (pz_nM σ M).1 σ.1 (va_cpy (M.1 (pv_j σ r)) (fun _ => 0) 0 0 (cp r)) (pv_j σ t) k).toInt
        rw [mo _ (by omega)]; exact g5 k hk
  · rw [ej t ht, ej u hu] at hh
    have ht2 := (hJ.1 t ht).2.1
    have hu2 := (hJ.1 u hu).2.1
    by_cases htr : t = r
    · by_cases hur : u = r
      · omega
      · rw [if_pos htr, if_neg hur] at hh; omega
    · by_cases hur : u = r
      · rw [if_neg htr, if_pos hur] at hh; omega
      · rw [if_neg htr, if_neg hur] at hh; exact hJ.2 t u ht hu hh
  · obtain ⟨g1, g2, g3, g4, g5⟩ := hj
    unfold pv_kept
    rw [ek]
    refine ⟨g1, Nat.lt_succ_of_lt g2, ?_, ?_, fun k hk => ?_⟩
    · rw [pv_ns_r h84 (by omega), if_neg (by omega)]; exact g3
    · rw [pv_ns_k, if_neg (by omega)]; exact g4
    · show _ = (va_up (pz_nM σ M).1 σ.1 (va_cpy (M.1 (pv_j σ r)) (fun _ => 0) 0 0 (cp r)) (pv_k σ) k).toInt
      rw [mo _ (by omega)]; exact g5 k hk
  · rw [ec, pv_ns_r h84 (by omega), if_neg (by omega)]; exact h5
/-- the rows twice as long -/
def pv_grow (V : pvM) : pvM := fun c k => if c = 17 ∧ k = 0 then 2 * V 17 0 else if 18 ≤ c ∧ c ≤ 21 then (if (k : Int) < V 17 0 then V c k else 0) else if c = 84 ∧ k = 0 then V 84 0 + 4 else if c = 84 ∧ k = 1 then V 84 1 + 8 * V 17 0 else V c k
def q_X3_grow (_N : Nat) (V : pvM) : Option pvO := if V 17 4 = V 17 0 ∧ V 17 0 ≤ 16384 ∧ 0 ≤ V 84 0 ∧ 0 ≤ V 84 1 ∧ V 84 0 + 4 ≤ (pv_LC : Int) ∧ V 84 1 + 8 * V 17 0 ≤ (pv_LS : Int) then some (0, 0, pv_grow V) else none
/-- the rows end in zeros -/
def pv_zx (V : pvM) : pvM := fun c k => if 18 ≤ c ∧ c ≤ 21 then (if (k : Int) < V 17 0 then V c k else 0) else V c k
theorem pv_zx_ne {V : pvM} {c k : Nat} (h : ¬ (18 ≤ c ∧ c ≤ 21)) : pv_zx V c k = V c k := by unfold pv_zx; rw [if_neg h]
theorem pv_RG_of {V : pvM} {σ : pzS} {M : pzM} (h : pv_R V σ M) : pv_RG (fun _ => (V 17 0).toNat) (pv_zx V) σ M := by
  obtain ⟨h0, h1, h2, ⟨hJ, h3⟩, ⟨hj, h4⟩, ⟨b1, b2, b3⟩, h5⟩ := h
  refine ⟨h0, fun a b hab => ?_, fun a b hab => ?_, ⟨fun r hr => ?_, hJ.2⟩, ⟨?_, by rw [pv_zx_ne (by omega)]; exact h4⟩, ⟨fun b => ?_, fun b => ?_, fun b => ?_⟩, ?_⟩
  · rw [pv_zx_ne (pv_li_dyn hab a rfl).1]; exact h1 a b hab
  · rw [pv_zx_ne (pv_ll_lt hab).2.1]; exact h2 a b hab
  · obtain ⟨g1, g2, g3, g4, g5⟩ := hJ.1 r hr
    refine ⟨g1, g2, g3, g4, fun k hk => ?_⟩
    have hk : k < (V 17 0).toNat := hk
    unfold pv_zx
    rw [if_pos (by omega), if_pos (by omega)]
    exact g5 k hk
  · obtain ⟨g1, g2, g3, g4, g5⟩ := hj
    unfold pv_kept
    rw [pv_zx_ne (c := 39) (by omega)]
    exact ⟨g1, g2, g3, g4, fun k hk => by rw [pv_zx_ne (by omega)]; exact g5 k hk⟩
  · rw [pv_zx_ne (by omega)]; exact b1 b
  · rw [pv_zx_ne (by omega)]; exact b2 b
  · rw [pv_zx_ne (by omega)]; exact b3 b
  · rw [pv_zx_ne (by omega)]; exact h5
theorem pv_R_of_G {V : pvM} {σ : pzS} {M : pzM} {cp : Nat → Nat} (h : pv_RG cp (pv_zx V) σ M) (hc : ∀ r, r < 4 → cp r = (2 * V 17 0).toNat) (h17 : 64 ≤ V 17 0 ∧ V 17 0 ≤ 16384) : pv_R (pv_grow V) σ M := by
  obtain ⟨h0, h1, h2, hJ, ⟨hj, h4⟩, ⟨b1, b2, b3⟩, h5⟩ := h
  have e : ∀ a b, a < 84 → ¬ (a = 17 ∧ b = 0) → pv_grow V a b = pv_zx V a b := by
    intro a b ha hn
    unfold pv_grow pv_zx
    rw [if_neg hn]
    by_cases h9 : 18 ≤ a ∧ a ≤ 21
    · rw [if_pos h9, if_pos h9]
    · rw [if_neg h9, if_neg h9, if_neg (by omega), if_neg (by omega)]
  have e17 : pv_grow V 17 0 = 2 * V 17 0 := by unfold pv_grow; rw [if_pos ⟨rfl, rfl⟩]
  refine ⟨h0, fun a b hab => ?_, fun a b hab => ?_, ⟨⟨fun r hr => ?_, hJ.2⟩, by rw [e17]; omega⟩, ⟨?_, by rw [e 39 2 (by omega) (by omega)]; exact h4⟩, ⟨fun b => ?_, fun b => ?_, fun b => ?_⟩, ?_⟩
  · rw [e a b (pv_li_lt hab) (by have := pv_li_ps hab; omega)]; exact h1 a b hab
  · have := pv_ll_lt hab
    rw [e a b this.1 (by omega)]; exact h2 a b hab
  · obtain ⟨g1, g2, g3, g4, g5⟩ := hJ.1 r hr
    rw [e17]
    rw [hc r hr] at g4 g5
    exact ⟨g1, g2, g3, g4, fun k hk => by rw [e _ _ (by omega) (by omega)]; exact g5 k hk⟩
  · obtain ⟨g1, g2, g3, g4, g5⟩ := hj
    unfold pv_kept
    rw [e 39 2 (by omega) (by omega)]
    exact ⟨g1, g2, g3, g4, fun k hk => by rw [e _ _ (by omega) (by omega)]; exact g5 k hk⟩
  · rw [e _ _ (by omega) (by omega)]; exact b1 b
  · rw [e _ _ (by omega) (by omega)]; exact b2 b
  · rw [e _ _ (by omega) (by omega)]; exact b3 b
  · rw [e _ _ (by omega) (by omega)]; exact h5
section PDG
variable {p : Program} {l : Launch} {e : Env} {R : Room} {s : State} {m : MethodId} {args : Array Value} {below : List Frame} {meth : Method} {c : Code} {D : va_G} {cy : Nat → ClassId} {A : Nat → Prop} {n0 : Nat} {ad0 : Nat → Nat} {Q : State → Prop} {σ : pzS} {M : pzM} {cells slots : Nat}
set_option maxHeartbeats 4000000 in
set_option maxRecDepth 100000 in
theorem pz_growStep (C : pz_C p s m args meth c cX3_grow 2 yX3_grow.cls D cy A) {r idx pc L n : Nat} {x : Int32} {cp : Nat → Nat} {V : pvM} (hr : r < 4) (hlink : Cond.fieldLink yX3_grow.cls idx (TX3 r).1 (TX3 r).2.1 (TX3 r).2.2.1 ∈ lw_good) (hft : (pz_ft 2)[r]? = some 2) (hfin : (TX3 r).2.2.2 = false) (hpd : parseFieldDescriptor (TX3 r).2.2.1 = some (.array .int))
    (d0 : decode cX3_grow pc = .ok (.aload_n 0, 1)) (d1 : decode cX3_grow (pc + 1) = .ok (.aload_n 0, 1)) (d2 : decode cX3_grow (pc + 2) = .ok (.getfield idx, 3)) (d5 : decode cX3_grow (pc + 5) = .ok (.iload_n 1, 1)) (d6 : decode cX3_grow (pc + 6) = .ok (.invokestatic 29, 3)) (d9 : decode cX3_grow (pc + 9) = .ok (.putfield idx, 3))
    (hx : x.toInt = (n : Int)) (hb : n ≤ 1000000) (hle : L < n) (hcp : cp r = L) (h : pv_RG cp V σ M) (hz : ∀ k, cp r ≤ k → V (18 + r) k = 0) (hn0 : n0 ≤ σ.1) (hR : 2 ≤ R.frames ∧ 62 ≤ R.locals) (hf : cells + 1 ≤ R.cells ∧ slots + n ≤ R.slots)
    (kk : ∀ (σ' : pzS) (M' : pzM), pv_RG (va_up cp r n) V σ' M' → n0 ≤ σ'.1 → pz_W p l e R s m args below meth c 2 D cy A n0 ad0 Q σ' M' (cells + 1) (slots + n) (pc + 12) [(1, .int x), (0, .ref 17)] []) : pz_W p l e R s m args below meth c 2 D cy A n0 ad0 Q σ M cells slots pc [(1, .int x), (0, .ref 17)] [] := by
  have g := h.2.2.2.1.1 r hr
  have h84 := h.1.1
  refine pz_aload_n C 1 d0 rfl ?_
  refine pz_aload_n C 1 d1 rfl ?_
  refine pz_getR C (ci := 2) (k := r) gwX3 rfl (by omega) hlink (shL h.1 17 rfl) (shK h.1 17 rfl rfl) hft g.2.2.1 d2 ?_
  refine pz_iload_n C 0 d5 rfl ?_
  refine pz_callS C (As := [.ref (pv_j σ r), .int x]) (rest := [.ref 17]) (c_copyOf1 l D cy g.2.1 h.1.2.2.2 (by rw [g.2.2.2.1, hcp]) hx hb hle) wB_yJ7_copyOf_59c91 ml_X3_29 sm_yJ7_copyOf_59c91 rfl rfl (by decide) ⟨hR.1, hR.2⟩ hf d6 hn0 ⟨by show 17 < σ.1; omega, trivial⟩ ⟨trivial, by show 17 < σ.1; omega, trivial⟩ (fun r9 σ9 M9 hp9 => ?_)
  obtain ⟨rfl, rfl, rfl⟩ := hp9
  have hG := pv_growStep (n := n) h hr hz
  rw [hcp] at hG
  have hsn : pz_sh (pz_new σ (1, n)) := by
    obtain ⟨h0, h1, h2, h3⟩ := h.1
    refine ⟨Nat.le_succ_of_le h0, fun a ha => ?_, fun a ha b hb j hj => ?_, pz_wf_new h3⟩
    · show va_up σ.2.1 σ.1 _ a = _
      simp only [va_up, if_neg (show a ≠ σ.1 by omega)]; exact h1 a ha
    · show va_up σ.2.2 σ.1 _ a b = _
      simp only [va_up, if_neg (show a ≠ σ.1 by omega)]; exact h2 a ha b hb j hj
  exact pz_putR C (ci := 2) (k := r) gwX3 rfl (by omega) hlink (shL hsn 17 rfl) (shK hsn 17 rfl rfl) tyX3_ok nmX3 hft hfin hpd (fun _ => rfl) (fun _ => rfl) d9 (kk _ _ hG (Nat.le_succ_of_le hn0))
end PDG
set_option maxHeartbeats 4000000 in
set_option maxRecDepth 100000 in
theorem c_X3_grow (l : Launch) (D : va_G) (cy : Nat → ClassId) {N : Nat} {V : pvM} {q : pvO} (hp : q_X3_grow N V = some q) : pv_Met l yX3_grow cX3_grow 2 none 2 62 D cy V [.ref 17] 0 q := by
  unfold q_X3_grow at hp
  by_cases hz : V 17 4 = V 17 0 ∧ V 17 0 ≤ 16384 ∧ 0 ≤ V 84 0 ∧ 0 ≤ V 84 1 ∧ V 84 0 + 4 ≤ (pv_LC : Int) ∧ V 84 1 + 8 * V 17 0 ≤ (pv_LS : Int)
  · rw [if_pos hz] at hp
    cases hp
    obtain ⟨z1, z2, z3, z4, z5, z6⟩ := hz
    refine pv_ofW (by decide) (Nat.le_of_ble_eq_true rfl) (fun p e s m args below meth c ad A n0 σ C hr => ?_)
    intro M h1 h2 h3
    have h17 := h1.2.2.2.1.2
    have hc4 : pv_c V + 4 ≤ pv_LC := by unfold pv_c; omega
    have hs4 : pv_s V + 8 * (V 17 0).toNat ≤ pv_LS := by unfold pv_s; omega
    have ec : pv_c (pv_grow V) = pv_c V + 4 := by
      unfold pv_c pv_grow
      rw [if_neg (by omega), if_neg (by omega), if_pos ⟨rfl, rfl⟩]
      omega
    have es : pv_s (pv_grow V) = pv_s V + 8 * (V 17 0).toNat := by
      unfold pv_s pv_grow
      rw [if_neg (by omega), if_neg (by omega), if_neg (by omega), if_pos ⟨rfl, rfl⟩]
      omega
    have hm4 : (M.1 17 4).toInt = V 17 0 := by rw [← h1.2.1 17 4 rfl]; exact z1
    have hxx : ((2 : Int32) * M.1 17 4).toInt = (((2 * V 17 0).toNat : Nat) : Int) := by
      rw [Int32.toInt_mul, hm4, show (2 : Int32).toInt = 2 from rfl, Int.bmod_def]
      omega
    obtain ⟨x, hx9⟩ : ∃ x : Int32, x = (2 : Int32) * M.1 17 4 := ⟨_, rfl⟩
    rw [← hx9] at hxx
    obtain ⟨n, hn9⟩ : ∃ n : Nat, n = (2 * V 17 0).toNat := ⟨_, rfl⟩
    rw [← hn9] at hxx
    have hG := pv_RG_of h1
    have hz0 : ∀ r, r < 4 → ∀ k, (V 17 0).toNat ≤ k → pv_zx V (18 + r) k = 0 := by
      intro r hr k hk
      unfold pv_zx
      rw [if_pos (by omega), if_neg (by omega)]
    refine pz_iconst C (v := 2) dX3_grow_0 (by decide) ?_
    refine pz_aload_n C 0 dX3_grow_1 rfl ?_
    refine pz_getI C (ci := 2) (k := 4) gwX3 rfl (Nat.le_of_ble_eq_true rfl) fl_X3_22 (shL h1.1 17 rfl) (shK h1.1 17 rfl rfl) rfl dX3_grow_2 ?_
    refine pz_imul C dX3_grow_5 ?_
    rw [← hx9]
    refine pz_istore_n (loc' := [(1, .int x), (0, .ref 17)]) C dX3_grow_6 (by decide) rfl ?_
    refine pz_growStep C (r := 0) (by decide) fl_X3_7 rfl rfl (by decide +kernel) dX3_grow_7 dX3_grow_8 dX3_grow_9 dX3_grow_12 dX3_grow_13 dX3_grow_16 hxx (by omega) (L := (V 17 0).toNat) (by omega) rfl hG (hz0 0 (by decide)) h2 ⟨(Nat.le_of_ble_eq_true rfl), (Nat.le_of_ble_eq_true rfl)⟩ ⟨by show _ ≤ pv_LC - pv_c V; omega, by show _ ≤ pv_LS - pv_s V; omega⟩ (fun σ1 M1 hG1 hn1 => ?_)
    refine pz_growStep C (r := 1) (by decide) fl_X3_13 rfl rfl (by decide +kernel) dX3_grow_19 dX3_grow_20 dX3_grow_21 dX3_grow_24 dX3_grow_25 dX3_grow_28 hxx (by omega) (L := (V 17 0).toNat) (by omega) rfl hG1 (hz0 1 (by decide)) hn1 ⟨(Nat.le_of_ble_eq_true rfl), (Nat.le_of_ble_eq_true rfl)⟩ ⟨by show _ ≤ pv_LC - pv_c V; omega, by show _ ≤ pv_LS - pv_s V; omega⟩ (fun σ2 M2 hG2 hn2 => ?_)
    refine pz_growStep C (r := 2) (by decide) fl_X3_16 rfl rfl (by decide +kernel) dX3_grow_31 dX3_grow_32 dX3_grow_33 dX3_grow_36 dX3_grow_37 dX3_grow_40 hxx (by omega) (L := (V 17 0).toNat) (by omega) rfl hG2 (hz0 2 (by decide)) hn2 ⟨(Nat.le_of_ble_eq_true rfl), (Nat.le_of_ble_eq_true rfl)⟩ ⟨by show _ ≤ pv_LC - pv_c V; omega, by show _ ≤ pv_LS - pv_s V; omega⟩ (fun σ3 M3 hG3 hn3 => ?_)
    refine pz_growStep C (r := 3) (by decide) fl_X3_19 rfl rfl (by decide +kernel) dX3_grow_43 dX3_grow_44 dX3_grow_45 dX3_grow_48 dX3_grow_49 dX3_grow_52 hxx (by omega) (L := (V 17 0).toNat) (by omega) rfl hG3 (hz0 3 (by decide)) hn3 ⟨(Nat.le_of_ble_eq_true rfl), (Nat.le_of_ble_eq_true rfl)⟩ ⟨by show _ ≤ pv_LC - pv_c V; omega, by show _ ≤ pv_LS - pv_s V; omega⟩ (fun σ4 M4 hG4 hn4 => ?_)
    refine pz_vret C hr ?_ ?_ dX3_grow_55 ⟨rfl, rfl, pv_R_of_G hG4 ?_ ⟨h17.1, z2⟩, hn4, ?_⟩
    · show _ ≤ pv_c (pv_grow V) - pv_c V
      rw [ec]; omega
    · show _ ≤ pv_s (pv_grow V) - pv_s V
      rw [es]; omega
    · intro r hr9
      rw [← hn9]
      match r, hr9 with
      | 0, _ => rfl
      | 1, _ => rfl
      | 2, _ => rfl
      | 3, _ => rfl
    · unfold pv_B
      show _ ≤ pv_c (pv_grow V) ∧ pv_c (pv_grow V) ≤ _ ∧ _ ≤ pv_s (pv_grow V) ∧ pv_s (pv_grow V) ≤ _
      rw [ec, es]; omega
  · rw [if_neg hz] at hp; cases hp
/-! KEPT ANEW -/
def pv_kn (V : pvM) : Int := if 80000 < 2 * V 39 2 then 80000 else 2 * V 39 2
def pv_growK (V : pvM) : pvM := fun c k => if c = 39 ∧ k = 2 then pv_kn V else if c = 42 then (if (k : Int) < V 39 2 then V c k else 0) else if c = 84 ∧ k = 0 then V 84 0 + 1 else if c = 84 ∧ k = 1 then V 84 1 + pv_kn V else V c k
def gK (V : pvM) (k : pvM → Option pvO) : Option pvO := if V 39 2 < 80000 ∧ 0 ≤ V 84 0 ∧ 0 ≤ V 84 1 ∧ V 84 0 + 1 ≤ (pv_LC : Int) ∧ V 84 1 + pv_kn V ≤ (pv_LS : Int) then k (pv_growK V) else none
theorem pv_growKStep {V : pvM} {σ : pzS} {M : pzM} {n : Nat} (h : pv_R V σ M) (hlt : V 39 2 < 80000) (hn : (n : Int) = pv_kn V) : pv_R (pv_growK V) (pv_ns σ 0 n 39 2) (va_up (pz_nM σ M).1 σ.1 (va_cpy (M.1 (pv_k σ)) (fun _ => 0) 0 0 (V 39 2).toNat), (pz_nM σ M).2) := by
  obtain ⟨h0, h1, h2, ⟨hJ, h3⟩, ⟨hj, h4⟩, ⟨b1, b2, b3⟩, h5⟩ := h
  have h84 := h0.1
  have hkn : pv_kn V ≤ 80000 ∧ V 39 2 ≤ pv_kn V := by unfold pv_kn; split <;> omega
  have mo : ∀ a, a ≠ σ.1 → va_up (pz_nM σ M).1 σ.1 (va_cpy (M.1 (pv_k σ)) (fun _ => 0) 0 0 (V 39 2).toNat) a = M.1 a := fun a ha => by show va_up (va_up M.1 σ.1 _) σ.1 _ a = _; simp only [va_up, if_neg ha]
  have mo2 : ∀ a, a ≠ σ.1 → (pz_nM σ M).2 a = M.2 a := fun a ha => by show va_up M.2 σ.1 _ a = _; simp only [va_up, if_neg ha]
  have mn : va_up (pz_nM σ M).1 σ.1 (va_cpy (M.1 (pv_k σ)) (fun _ => 0) 0 0 (V 39 2).toNat) σ.1 = va_cpy (M.1 (pv_k σ)) (fun _ => 0) 0 0 (V 39 2).toNat := by simp [va_up]
  have e : ∀ a b, a < 84 → ¬ (a = 39 ∧ b = 2) → a ≠ 42 → pv_growK V a b = V a b := by
    intro a b ha hn1 hn2
    unfold pv_growK
    rw [if_neg hn1, if_neg hn2, if_neg (by omega), if_neg (by omega)]
  have e39 : pv_growK V 39 2 = pv_kn V := by unfold pv_growK; rw [if_pos ⟨rfl, rfl⟩]
  have e42 : ∀ b, pv_growK V 42 b = if (b : Int) < V 39 2 then V 42 b else 0 := by intro b; unfold pv_growK; rw [if_neg (by omega), if_pos rfl]
  have ej : ∀ t, pv_j (pv_ns σ 0 n 39 2) t = pv_j σ t := by
    intro t
    unfold pv_j
    rw [pv_ns_r h84 (by omega), if_neg (by omega)]
  have ek : pv_k (pv_ns σ 0 n 39 2) = σ.1 := by
    unfold pv_k
    rw [pv_ns_r h84 (by omega), if_pos ⟨rfl, rfl⟩]; rfl
  have ec : pv_cd (pv_ns σ 0 n 39 2) = pv_cd σ := by
    unfold pv_cd
    rw [pv_ns_r h84 (by omega), if_neg (by omega)]
  refine ⟨pv_ns_sh h0 rfl, fun a b hab => ?_, fun a b hab => ?_, ⟨⟨fun t ht => ?_, fun t u ht hu hh => hJ.2 t u ht hu (by rw [ej, ej] at hh; exact hh)⟩, by rw [e 17 0 (by omega) (by omega) (by omega)]; exact h3⟩, ⟨?_, by rw [e39]; omega⟩, ⟨fun b => ?_, fun b => ?_, fun b => ?_⟩, ?_⟩
  · have hl := pv_li_lt hab
    have hd := pv_li_dyn hab a rfl
    show _ = (va_up (pz_nM σ M).1 σ.1 (va_cpy (M.1 (pv_k σ)) (fun _ => 0) 0 0 (V 39 2).toNat) a b).toInt
    rw [mo a (by omega), e a b hl (by have := pv_li_ps hab; omega) hd.2]; exact h1 a b hab
  · have hl := pv_ll_lt hab
    show _ = ((pz_nM σ M).2 a b).toInt
    rw [mo2 a (by omega), e a b hl.1 (by omega) (by omega)]; exact h2 a b hab
  · obtain ⟨g1, g2, g3, g4, g5⟩ := hJ.1 t ht
    rw [ej, e 17 0 (by omega) (by omega) (by omega)]
    refine ⟨g1, Nat.lt_succ_of_lt g2, ?_, ?_, fun k hk => ?_⟩
    · rw [pv_ns_r h84 (by omega), if_neg (by omega)]; exact g3
    · rw [pv_ns_k, if_neg (by omega)]; exact g4
    · show _ = (va_up (pz_nM σ M).1 σ.1 (va_cpy (M.1 (pv_k σ)) (fun _ => 0) 0 0 (V 39 2).toNat) (pv_j σ t) k).toInt
      rw [mo _ (by omega), e _ _ (by omega) (by omega) (by omega)]; exact g5 k hk
  · unfold pv_kept
    rw [ek, e39]
    refine ⟨Or.inr h84, Nat.lt_succ_self _, ?_, ?_, fun k hk => ?_⟩
    · rw [pv_ns_r h84 (by omega), if_pos ⟨rfl, rfl⟩]
    · rw [pv_ns_k, if_pos rfl, show n = (pv_kn V).toNat by omega]
    · show _ = (va_up (pz_nM σ M).1 σ.1 (va_cpy (M.1 (pv_k σ)) (fun _ => 0) 0 0 (V 39 2).toNat) σ.1 k).toInt
      rw [mn, e42]
      unfold va_cpy
      by_cases hk9 : (k : Int) < V 39 2
      · rw [if_pos hk9, if_pos (by omega), hj.2.2.2.2 k (by omega)]
        simp
      · rw [if_neg hk9, if_neg (by omega)]
        rfl
  · rw [e42]
    split
    · exact b1 b
    · omega
  · rw [e _ _ (by omega) (by omega) (by omega)]; exact b2 b
  · rw [e _ _ (by omega) (by omega) (by omega)]; exact b3 b
  · rw [ec, e _ _ (by omega) (by omega) (by omega), pv_ns_r h84 (by omega), if_neg (by omega)]; exact h5
section PDK
variable {p : Program} {l : Launch} {e : Env} {fr lo : Nat} {s : State} {m : MethodId} {args : Array Value} {below : List Frame} {meth : Method} {c : Code} {D : va_G} {cy : Nat → ClassId} {A : Nat → Prop} {n0 : Nat} {ad0 : Nat → Nat} {Q : State → Prop} {V0 V : pvM} {σ : pzS} {loc : List (Nat × Value)} {q : pvO}
set_option maxHeartbeats 4000000 in
set_option maxRecDepth 100000 in
theorem pv_gK (C : pz_C p s m args meth c cX8_appendSpelled 3 yX8_appendSpelled.cls D cy A) {kt : pvM → Option pvO} (i : Nat) (hloc : loc[i]? = some (0, .ref 39)) (hp : gK V kt = some q) (hR : 2 ≤ fr ∧ 62 ≤ lo) (g2 : pv_all loc = true)
    (kk : ∀ (σ' : pzS) (V' : pvM), kt V' = some q → pv_W p l e fr lo s m args below meth c 3 D cy A n0 ad0 Q V0 σ' V' 70 loc []) : pv_W p l e fr lo s m args below meth c 3 D cy A n0 ad0 Q V0 σ V 47 loc [] := by
  intro M h1 h2 h3
  unfold gK at hp
  by_cases hz : V 39 2 < 80000 ∧ 0 ≤ V 84 0 ∧ 0 ≤ V 84 1 ∧ V 84 0 + 1 ≤ (pv_LC : Int) ∧ V 84 1 + pv_kn V ≤ (pv_LS : Int)
  · rw [if_pos hz] at hp
    obtain ⟨z1, z2, z3, z4, z5⟩ := hz
    have g := h1.2.2.2.2.1.1
    have h39 := h1.2.2.2.2.1.2
    have h84 := h1.1.1
    have hkn : pv_kn V ≤ 80000 ∧ V 39 2 < pv_kn V := by unfold pv_kn; split <;> omega
    have hc1 : pv_c V + 1 ≤ pv_LC := by unfold pv_c; omega
    have hs1 : pv_s V + (pv_kn V).toNat ≤ pv_LS := by unfold pv_s; omega
    have ec : pv_c (pv_growK V) = pv_c V + 1 := by
      unfold pv_c pv_growK
      rw [if_neg (by omega), if_neg (by omega), if_pos ⟨rfl, rfl⟩]
      omega
    have es : pv_s (pv_growK V) = pv_s V + (pv_kn V).toNat := by
      unfold pv_s pv_growK
      rw [if_neg (by omega), if_neg (by omega), if_neg (by omega), if_pos ⟨rfl, rfl⟩]
      omega
    have h9 := h3
    unfold pv_B at h9
    have hlen : (Int32.ofNat (V 39 2).toNat).toInt = V 39 2 := pv_ofNat (by omega) (by omega)
    have h2l : ((2 : Int32) * Int32.ofNat (V 39 2).toNat).toInt = 2 * V 39 2 := by
      rw [Int32.toInt_mul, hlen, show (2 : Int32).toInt = 2 from rfl, Int.bmod_def]
      omega
    obtain ⟨x, hx⟩ : ∃ x : Int32, x = (if (80000 : Int32) < (2 : Int32) * Int32.ofNat (V 39 2).toNat then (80000 : Int32) else (2 : Int32) * Int32.ofNat (V 39 2).toNat) := ⟨_, rfl⟩
    obtain ⟨n, hn⟩ : ∃ n : Nat, n = (pv_kn V).toNat := ⟨_, rfl⟩
    have hxn : x.toInt = (n : Int) := by
      rw [hx, hn]
      unfold pv_kn
      by_cases h8 : (80000 : Int32) < (2 : Int32) * Int32.ofNat (V 39 2).toNat
      · have h7 := Int32.lt_iff_toInt_lt.mp h8
        rw [h2l, show (80000 : Int32).toInt = 80000 from rfl] at h7
        rw [if_pos h8, if_pos h7]; rfl
      · have h7 : ¬ 80000 < 2 * V 39 2 := fun h6 => h8 (Int32.lt_iff_toInt_lt.mpr (by rw [h2l, show (80000 : Int32).toInt = 80000 from rfl]; exact h6))
        rw [if_neg h8, if_neg h7, h2l]
        omega
    have hal := pv_all_p h84 g2
    refine pz_aload_n C i dX8_appendSpelled_47 hloc ?_
    refine pz_aload_n C i dX8_appendSpelled_48 hloc ?_
    refine pz_getR C (ci := 7) (k := 2) gwX8 rfl (Nat.le_of_ble_eq_true rfl) fl_X8_18 (shL h1.1 39 rfl) (shK h1.1 39 rfl rfl) rfl g.2.2.1 dX8_appendSpelled_49 ?_
    refine pz_iconst C (v := 2) dX8_appendSpelled_52 (by decide) ?_
    refine pz_aload_n C i dX8_appendSpelled_53 hloc ?_
    refine pz_getR C (ci := 7) (k := 2) gwX8 rfl (Nat.le_of_ble_eq_true rfl) fl_X8_18 (shL h1.1 39 rfl) (shK h1.1 39 rfl rfl) rfl g.2.2.1 dX8_appendSpelled_54 ?_
    refine pz_alen (t := 0) (v := Int32.ofNat (V 39 2).toNat) C g.2.1 (by rw [g.2.2.2.1]) (by decide) (by rw [g.2.2.2.1]) dX8_appendSpelled_57 ?_
    refine pz_imul C dX8_appendSpelled_58 ?_
    refine pz_ldc C ki_X8_58 dX8_appendSpelled_59 ?_
    refine pz_mmin C ml_X8_59 (show 1 ≤ fr by omega) (show 2 + 13 ≤ lo by omega) (show _ ≤ pv_LC - pv_c V0 by omega) (show _ ≤ pv_LS - pv_s V0 by omega) dX8_appendSpelled_61 ?_
    rw [← hx]
    refine pz_callS C (As := [.ref (pv_k σ), .int x]) (rest := [.ref 39]) (c_copyOf0 l D cy g.2.1 h1.1.2.2.2 g.2.2.2.1 (fun k hk => pv_fitb (by rw [← g.2.2.2.2 k hk]; exact h1.2.2.2.2.2.1.1 k)) hxn (by omega) (by omega)) wB_yJ7_copyOf_9075b ml_X8_65 sm_yJ7_copyOf_9075b rfl rfl (by decide) ⟨hR.1, hR.2⟩ ⟨show _ ≤ pv_LC - pv_c V0 by omega, show _ ≤ pv_LS - pv_s V0 by omega⟩ dX8_appendSpelled_64 h2 ⟨by show 39 < σ.1; omega, trivial⟩ hal (fun r9 σ9 M9 hp9 => ?_)
    obtain ⟨rfl, rfl, rfl⟩ := hp9
    have hsn : pz_sh (pz_new σ (0, n)) := by
      obtain ⟨h0, h1, h2, h3⟩ := h1.1
      refine ⟨Nat.le_succ_of_le h0, fun a ha => ?_, fun a ha b hb j hj => ?_, pz_wf_new h3⟩
      · show va_up σ.2.1 σ.1 _ a = _
        simp only [va_up, if_neg (show a ≠ σ.1 by omega)]; exact h1 a ha
      · show va_up σ.2.2 σ.1 _ a b = _
        simp only [va_up, if_neg (show a ≠ σ.1 by omega)]; exact h2 a ha b hb j hj
    have k9 := kk _ _ hp _ (pv_growKStep h1 z1 (n := n) (by omega)) (Nat.le_succ_of_le h2) (by unfold pv_B; rw [ec, es]; omega)
    rw [ec, es, show pv_c V + 1 - pv_c V0 = pv_c V - pv_c V0 + 1 by omega, show pv_s V + (pv_kn V).toNat - pv_s V0 = pv_s V - pv_s V0 + n by omega] at k9
    exact pz_putR C (ci := 7) (k := 2) gwX8 rfl (Nat.le_of_ble_eq_true rfl) fl_X8_18 (shL hsn 39 rfl) (shK hsn 39 rfl rfl) tyX8_ok nmX8 rfl rfl (ty := .array .byte) (by decide +kernel) (fun _ => rfl) (fun _ => rfl) dX8_appendSpelled_67 k9
  · rw [if_neg hz] at hp; cases hp
end PDK
