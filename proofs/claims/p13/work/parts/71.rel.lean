/-! THE REFERENCE RUNS AS THE FIRST CODE DOES -/
def hgt (V : pvM) (d : Nat) : Nat := (V 33 d - ((33 * d + 20 : Nat) : Int)).toNat
theorem hgt_eq {V : pvM} {d h : Nat} (h9 : V 33 d = ((33 * d + 20 + h : Nat) : Int)) : hgt V d = h := by unfold hgt; omega
def bs (V : pvM) : Nat → Nat
  | 0 => 0
  | d + 1 => bs V d + hgt V d
theorem bs_congr {V V' : pvM} : ∀ n : Nat, (∀ e, e < n → V' 33 e = V 33 e) → bs V' n = bs V n
  | 0, _ => rfl
  | n + 1, h => by
    simp only [bs]
    rw [bs_congr n (fun e he => h e (by omega))]
    unfold hgt
    rw [h n (by omega)]
theorem bs_le {V : pvM} {D : Nat} (hF : FS V D) : ∀ n : Nat, n ≤ D → bs V n ≤ 12 * n
  | 0, _ => Nat.le_refl _
  | n + 1, h => by
    have h1 := bs_le hF n (by omega)
    obtain ⟨f, p, g, q1, q2, q3⟩ := hF n (by omega)
    have h2 := hgt_eq q1.1.2.2
    simp only [bs]
    omega
def fR (V Vr : pvM) (d B h : Nat) : Prop := (Vr 69 (d + 1) = V 31 d ∧ Vr 70 (d + 1) = V 32 d ∧ Vr 71 (d + 1) = (B : Int)) ∧ (∀ k, k < 8 → Vr 72 (8 * (d + 1) + k) = kd (V 30 (33 * d + k)) ∧ Vr 73 (8 * (d + 1) + k) = ct (V 30 (33 * d + k))) ∧ ∀ j, j < h → Vr 67 (B + j) = kd (V 30 (33 * d + 20 + j)) ∧ Vr 68 (B + j) = ct (V 30 (33 * d + 20 + j))
def HR (V Vr : pvM) : Prop := ∀ c : Nat, (c : Int) < V 35 3 → Vr 78 c = V 36 c ∧ Vr 79 c = V 37 c ∧ ∀ k : Nat, (k : Int) < V 37 c → Vr 80 (3 * c + k) = kd (V 38 (3 * c + k)) ∧ Vr 81 (3 * c + k) = ct (V 38 (3 * c + k))
def TR (V Vr : pvM) : Prop := ∀ t : Nat, (t : Int) < V 39 3 → Vr 76 t = V 41 t
def mrs : List Nat := [45, 66, 67, 68, 69, 70, 71, 72, 73, 74, 75, 76, 77, 78, 79, 80, 81, 82]
def rfs : List Nat := [27, 28, 29, 30, 31, 33, 36, 44, 47, 52]
def SC (V Vr : pvM) (D : Nat) : Prop := Vr 45 27 = V 28 7 ∧ Vr 45 28 = 0 ∧ Vr 45 29 = 0 ∧ Vr 45 30 = 0 ∧ Vr 45 31 = V 39 7 ∧ Vr 45 33 = bs V D ∧ Vr 45 36 = D ∧ Vr 45 44 = V 39 3 ∧ Vr 45 47 = V 35 3
def RR (U V Vr : pvM) (D : Nat) : Prop := (fr mrs U Vr ∧ f45 rfs U Vr) ∧ SC V Vr D ∧ (∀ d, d < D → fR V Vr d (bs V d) (hgt V d)) ∧ HR V Vr ∧ TR V Vr
def RFN (U V' Vr' : pvM) : Prop := (fr mrs U Vr' ∧ f45 rfs U Vr') ∧ Vr' 45 27 = V' 28 7 ∧ Vr' 45 28 = V' 28 8 ∧ Vr' 45 31 = V' 39 7 ∧ Vr' 45 29 = kd (V' 28 9) ∧ (kd (V' 28 9) = 1 → Vr' 45 30 = ct (V' 28 9)) ∧ (V' 28 8 ≠ 0 ∨ (Vr' 45 36 = 0 ∧ V' 29 5 = 0))
def RO (U V' Vr' : pvM) : Prop := (∃ D', (V' 29 5 = ((D' + 1 : Nat) : Int) ∧ V' 28 8 = 0) ∧ RR U V' Vr' (D' + 1)) ∨ RFN U V' Vr'
theorem RO_in {U V' Vr' : pvM} {D' : Nat} (h29 : V' 29 5 = ((D' + 1 : Nat) : Int) ∧ V' 28 8 = 0) (h : RR U V' Vr' (D' + 1)) : RO U V' Vr' := Or.inl ⟨D', h29, h⟩
/-- the same program on both sides -/
def SP (U V0 : pvM) : Prop := (∀ c, c ∈ prog → U c = V0 c) ∧ RI U
theorem fR.keep {V V' Vr Vr' : pvM} {d B h : Nat} (hm : fR V Vr d B h) (hh : h ≤ 13) (e31 : V' 31 d = V 31 d) (e32 : V' 32 d = V 32 d) (e30 : ∀ i, 33 * d ≤ i → i < 33 * d + 33 → V' 30 i = V 30 i) (r69 : Vr' 69 (d + 1) = Vr 69 (d + 1)) (r70 : Vr' 70 (d + 1) = Vr 70 (d + 1)) (r71 : Vr' 71 (d + 1) = Vr 71 (d + 1)) (r7 : ∀ i, 8 * (d + 1) ≤ i → i < 8 * (d + 1) + 8 → Vr' 72 i = Vr 72 i ∧ Vr' 73 i = Vr 73 i) (r6 : ∀ i, B ≤ i → i < B + h → Vr' 67 i = Vr 67 i ∧ Vr' 68 i = Vr 68 i) : fR V' Vr' d B h := by
  obtain ⟨a1, a2, a3⟩ := hm
  refine ⟨by rw [e31, e32, r69, r70, r71]; exact a1, fun k hk => ?_, fun j hj => ?_⟩
  · rw [e30 _ (by omega) (by omega), (r7 _ (by omega) (by omega)).1, (r7 _ (by omega) (by omega)).2]; exact a2 k hk
  · rw [e30 _ (by omega) (by omega), (r6 _ (by omega) (by omega)).1, (r6 _ (by omega) (by omega)).2]; exact a3 j hj
theorem bs_step {V : pvM} {D : Nat} (hF : FS V D) {e n : Nat} (he : e < n) (hn : n ≤ D) : bs V e + hgt V e ≤ bs V n := by
  induction n with
  | zero => omega
  | succ n ih =>
    simp only [bs]
    by_cases hen : e = n
    · subst hen; omega
    · have := ih (by omega) (by omega); omega
/-- only the top frames of both have changed -/
theorem RR_top {b : Int} {U V0 V V' Vr Vr' : pvM} {d h' : Nat} (hC : CI b V0 V (d + 1)) (hR : RR U V Vr (d + 1)) (g1 : fr mrs Vr Vr') (g2 : f45 rfs Vr Vr')
    (e31 : V' 31 = V 31) (e32 : ∀ e, e ≠ d → V' 32 e = V 32 e) (e33 : ∀ e, e ≠ d → V' 33 e = V 33 e) (e30 : ∀ i, i < 33 * d → V' 30 i = V 30 i)
    (r69 : Vr' 69 = Vr 69) (r71 : Vr' 71 = Vr 71) (r70 : ∀ e, e ≠ d + 1 → Vr' 70 e = Vr 70 e) (r7 : ∀ i, i < 8 * (d + 1) → Vr' 72 i = Vr 72 i ∧ Vr' 73 i = Vr 73 i) (r6 : ∀ i, i < bs V d → Vr' 67 i = Vr 67 i ∧ Vr' 68 i = Vr 68 i)
    (e33d : V' 33 d = ((33 * d + 20 + h' : Nat) : Int)) (hpc : Vr' 70 (d + 1) = V' 32 d) (hlo : ∀ k, k < 8 → Vr' 72 (8 * (d + 1) + k) = kd (V' 30 (33 * d + k)) ∧ Vr' 73 (8 * (d + 1) + k) = ct (V' 30 (33 * d + k))) (hst : ∀ j, j < h' → Vr' 67 (bs V d + j) = kd (V' 30 (33 * d + 20 + j)) ∧ Vr' 68 (bs V d + j) = ct (V' 30 (33 * d + 20 + j)))
    (s1 : Vr' 45 27 = V' 28 7) (s2 : Vr' 45 28 = 0) (s3 : Vr' 45 29 = 0) (s4 : Vr' 45 30 = 0) (s5 : Vr' 45 31 = V' 39 7) (s6 : Vr' 45 33 = ((bs V d + h' : Nat) : Int)) (s7 : Vr' 45 36 = ((d + 1 : Nat) : Int)) (s8 : Vr' 45 44 = V' 39 3) (s9 : Vr' 45 47 = V' 35 3) (hHR : HR V' Vr') (hTR : TR V' Vr') : RR U V' Vr' (d + 1) := by
  obtain ⟨a1, a2, a3, a4, a5⟩ := hR
  have hF := hC.2.2.2.1
  have eb : bs V' d = bs V d := bs_congr d (fun e he => e33 e (by omega))
  have eh := hgt_eq e33d
  refine ⟨⟨a1.1.trans g1, a1.2.trans g2⟩, ⟨s1, s2, s3, s4, s5, ?_, s7, s8, s9⟩, fun e he => ?_, hHR, hTR⟩
  · rw [s6]; simp only [bs]; rw [eb, eh]
  · by_cases hed : e = d
    · subst hed
      rw [eb, eh]
      have := a3 e (by omega)
      exact ⟨⟨by rw [r69, e31]; exact this.1.1, hpc, by rw [r71]; exact this.1.2.2⟩, hlo, hst⟩
    · have eb2 : bs V' e = bs V e := bs_congr e (fun i hi => e33 i (by omega))
      have eh2 : hgt V' e = hgt V e := by unfold hgt; rw [e33 e hed]
      obtain ⟨f, p, g, q1, q2, q3⟩ := hF e he
      have hg := hgt_eq q1.1.2.2
      have hst2 := bs_step hF (e := e) (n := d) (by omega) (by omega)
      rw [eb2, eh2]
      exact (a3 e he).keep (by omega) (by rw [e31]) (e32 e hed) (fun i h1 h2 => e30 i (by omega)) (by rw [r69]) (r70 _ (by omega)) (by rw [r71]) (fun i h1 h2 => r7 i (by omega)) (fun i h1 h2 => r6 i (by omega))
theorem HR_fr {V V' Vr Vr' : pvM} (h : HR V Vr) (e35 : V' 35 = V 35) (e36 : V' 36 = V 36) (e37 : V' 37 = V 37) (e38 : V' 38 = V 38) (r : ∀ c, c ∈ [78, 79, 80, 81] → Vr' c = Vr c) : HR V' Vr' := by
  unfold HR at h ⊢
  rw [e35, e36, e37, e38, r 78 (by decide), r 79 (by decide), r 80 (by decide), r 81 (by decide)]; exact h
theorem TR_fr {V V' Vr Vr' : pvM} (h : TR V Vr) (e39 : V' 39 3 = V 39 3) (e41 : V' 41 = V 41) (r : Vr' 76 = Vr 76) : TR V' Vr' := by
  unfold TR at h ⊢
  rw [e39, e41, r]; exact h
/-- nothing but frames has changed -/
theorem RR_fr {b : Int} {U V0 V V' Vr Vr' : pvM} {d h' p' : Nat} (hC : CI b V0 V (d + 1)) (hR : RR U V Vr (d + 1)) (f1 : fr [28, 30, 32, 33, 34] V V') (e287 : V' 28 7 = V 28 7 + 1)
    (e32 : V' 32 = va_up (V 32) d (p' : Int)) (e33 : ∀ e, e ≠ d → V' 33 e = V 33 e) (e33d : V' 33 d = ((33 * d + 20 + h' : Nat) : Int)) (e30 : ∀ i, i < 33 * d → V' 30 i = V 30 i)
    (g1 : fr [45, 67, 68, 70, 72, 73, 74, 75, 82] Vr Vr') (g2 : f45 [27, 33, 52] Vr Vr') (r27 : Vr' 45 27 = Vr 45 27 + 1) (r33 : Vr' 45 33 = ((bs V d + h' : Nat) : Int)) (r70 : Vr' 70 = va_up (Vr 70) (d + 1) (p' : Int)) (r7 : ∀ i, i < 8 * (d + 1) → Vr' 72 i = Vr 72 i ∧ Vr' 73 i = Vr 73 i) (r6 : ∀ i, i < bs V d → Vr' 67 i = Vr 67 i ∧ Vr' 68 i = Vr 68 i)
    (hlo : ∀ k, k < 8 → Vr' 72 (8 * (d + 1) + k) = kd (V' 30 (33 * d + k)) ∧ Vr' 73 (8 * (d + 1) + k) = ct (V' 30 (33 * d + k))) (hst : ∀ j, j < h' → Vr' 67 (bs V d + j) = kd (V' 30 (33 * d + 20 + j)) ∧ Vr' 68 (bs V d + j) = ct (V' 30 (33 * d + 20 + j))) : RR U V' Vr' (d + 1) := by
  have hR' := hR
  obtain ⟨a1, ⟨t1, t2, t3, t4, t5, t6, t7, t8, t9⟩, a3, a4, a5⟩ := hR'
  have e39 := f1 39 (by decide)
  have e35 := f1 35 (by decide)
  refine RR_top (h' := h') hC hR (g1.mono (by decide)) (g2.mono (by decide)) (f1 31 (by decide)) (fun e he => by rw [e32, up_app, if_neg he]) e33 e30 (g1 69 (by decide)) (g1 71 (by decide)) (fun e he => by rw [r70, up_app, if_neg he]) r7 r6 e33d (by rw [r70, up_app, if_pos rfl, e32, up_app, if_pos rfl]) hlo hst (by rw [r27, e287, t1]) (by rw [g2 28 (by decide)]; exact t2) (by rw [g2 29 (by decide)]; exact t3) (by rw [g2 30 (by decide)]; exact t4) (by rw [g2 31 (by decide), e39]; exact t5) r33 (by rw [g2 36 (by decide)]; exact t7) (by rw [g2 44 (by decide), e39]; exact t8) (by rw [g2 47 (by decide), e35]; exact t9) (HR_fr a4 e35 (f1 36 (by decide)) (f1 37 (by decide)) (f1 38 (by decide)) (fun c hc => g1 c (by simp at hc; simp; omega))) (TR_fr a5 (by rw [e39]) (f1 41 (by decide)) (g1 76 (by decide)))
/-- a fault on both sides -/
theorem RFN_flt {b e : Int} {U V0 V V' Vr Vr' : pvM} {D : Nat} (hC : CI b V0 V D) (hR : RR U V Vr D) (g1 : fr mrs Vr Vr') (g2 : f45 rfs Vr Vr') (r27 : Vr' 45 27 = V' 28 7) (r28 : Vr' 45 28 = e) (r29 : Vr' 45 29 = Vr 45 29) (r31 : Vr' 45 31 = V' 39 7) (v8 : V' 28 8 = e) (v9 : V' 28 9 = V 28 9) (he : e ≠ 0) : RFN U V' Vr' := by
  obtain ⟨a1, a2, -⟩ := hR
  have c9 : V 28 9 = 0 := hC.2.1.2.2.2.2.2
  have k0 : kd 0 = 0 := by decide
  refine ⟨⟨a1.1.trans g1, a1.2.trans g2⟩, r27, by rw [r28, v8], r31, ?_, ?_, Or.inl (by rw [v8]; exact he)⟩
  · rw [r29, v9, c9, k0]; exact a2.2.2.1
  · rw [v9, c9, k0]; intro h; omega
/-- the reference's counters, one step on -/
def mnx (Vr : pvM) (d : Nat) (p : Int) : pvM := pz_u (pz_u Vr 45 27 (Vr 45 27 + 1)) 70 (d + 1) p
theorem mnx_45 (Vr : pvM) (d : Nat) (p : Int) : mnx Vr d p 45 = va_up (Vr 45) 27 (Vr 45 27 + 1) := by unfold mnx; rw [pu_off (by decide), pu_row]
theorem mnx_70 (Vr : pvM) (d : Nat) (p : Int) : mnx Vr d p 70 = va_up (Vr 70) (d + 1) p := by unfold mnx; rw [pu_row, pu_off (by decide)]
theorem mnx_off {Vr : pvM} {d c : Nat} {p : Int} (h0 : c ≠ 45) (h3 : c ≠ 70) : mnx Vr d p c = Vr c := by unfold mnx; rw [pu_off h3, pu_off h0]
/-- what the reference reads of the program -/
theorem SP_at {U V0 V Vr : pvM} (hS : SP U V0) (h1 : fr rcs V0 V) (h2 : fr mrs U Vr) (f p : Nat) : Vr 48 (40 * f + p) = cW V f p ∧ Vr 49 (40 * f + p) = cA V f p ∧ Vr 50 (40 * f + p) = cB V f p ∧ Vr 46 = V 8 := by
  obtain ⟨s1, s2⟩ := hS
  obtain ⟨i1, i2, i3, i4, i5, i6, i7, i8, i9⟩ := s2
  refine ⟨?_, ?_, ?_, ?_⟩
  · rw [h2 48 (by decide), i4, s1 10 (by decide), ← h1 10 (by decide)]; rfl
  · rw [h2 49 (by decide), i5, s1 11 (by decide), ← h1 11 (by decide)]; rfl
  · rw [h2 50 (by decide), i6, s1 12 (by decide), ← h1 12 (by decide)]; rfl
  · rw [h2 46 (by decide), i2, s1 8 (by decide), ← h1 8 (by decide)]
