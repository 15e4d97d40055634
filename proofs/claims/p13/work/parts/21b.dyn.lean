theorem lf_at1 {w : Cond} (i : Nat) (h0 : tables_1_1[i]? = some w) (hg : (w.onTables && w.keepsFace) = true) : w ∈ lw_face := lw_face_in (have h := List.mem_of_getElem? h0; List.mem_append_right _ (List.mem_append_left _ h)) hg
theorem lf_at2 {w : Cond} (i : Nat) (h0 : tables_1_2[i]? = some w) (hg : (w.onTables && w.keepsFace) = true) : w ∈ lw_face := lw_face_in (have h := List.mem_of_getElem? h0; List.mem_append_right _ (List.mem_append_right _ (List.mem_append_left _ h))) hg
theorem lf_at3 {w : Cond} (i : Nat) (h0 : tables_1_3[i]? = some w) (hg : (w.onTables && w.keepsFace) = true) : w ∈ lw_face := lw_face_in (have h := List.mem_of_getElem? h0; List.mem_append_right _ (List.mem_append_right _ (List.mem_append_right _ (List.mem_append_left _ h)))) hg
theorem lf_at4 {w : Cond} (i : Nat) (h0 : tables_1_4[i]? = some w) (hg : (w.onTables && w.keepsFace) = true) : w ∈ lw_face := lw_face_in (have h := List.mem_of_getElem? h0; List.mem_append_right _ (List.mem_append_right _ (List.mem_append_right _ (List.mem_append_right _ (List.mem_append_left _ h))))) hg
theorem lf_at5 {w : Cond} (i : Nat) (h0 : tables_1_5[i]? = some w) (hg : (w.onTables && w.keepsFace) = true) : w ∈ lw_face := lw_face_in (have h := List.mem_of_getElem? h0; List.mem_append_right _ (List.mem_append_right _ (List.mem_append_right _ (List.mem_append_right _ (List.mem_append_right _ (List.mem_append_left _ h)))))) hg
theorem lf_at6 {w : Cond} (i : Nat) (h0 : tables_1_6[i]? = some w) (hg : (w.onTables && w.keepsFace) = true) : w ∈ lw_face := lw_face_in (have h := List.mem_of_getElem? h0; List.mem_append_right _ (List.mem_append_right _ (List.mem_append_right _ (List.mem_append_right _ (List.mem_append_right _ (List.mem_append_right _ (h))))))) hg
theorem ac_nat : Cond.native arraycopyName ∈ lw_face := lf_at2 183 rfl rfl
theorem ac_stat : Cond.static arraycopyName ∈ lw_good := lw_at2 182 rfl rfl
theorem ac_ini : Cond.initialized "java/lang/System" ∈ lw_good := lw_at1 19 rfl rfl
section PDA
variable {p : Program} {l : Launch} {e : Env} {R : Room} {s : State} {m : MethodId} {args : Array Value} {below : List Frame} {meth : Method} {c : Code} {cc : ByteArray} {nL : Nat} {own : String} {D : va_G} {cy : Nat → ClassId} {A : Nat → Prop} {n0 : Nat} {ad0 : Nat → Nat} {Q : State → Prop} {σ : pzS} {M : pzM} {cells slots pc : Nat} {loc loc' : List (Nat × Value)} {st : List Value}
theorem pz_arK {ad : Nat → Nat} {t i : Nat} (ht : t = 0 ∨ t = 1) (hi : i < σ.1) (hK : (σ.2.1 i).1 = t) : (pz_w cy ad σ M)[i]? = some (ad i, .inl (cy t, (σ.2.1 i).2, .inl (M.1 i))) := by
  rcases ht with rfl | rfl
  · exact pz_ar0 hi hK
  · exact pz_ar1 hi hK
theorem pz_asK {ad : Nat → Nat} {t j : Nat} {g : Nat → Int32} (ht : t = 0 ∨ t = 1) (hi : j < σ.1) (hK : (σ.2.1 j).1 = t) : (pz_w cy ad σ M).set j (ad j, .inl (cy t, (σ.2.1 j).2, .inl g)) = pz_w cy ad σ (va_up M.1 j g, M.2) := by
  refine pz_w_set rfl hi ?_ (fun i _ hij => pz_e_off rfl (by show M.1 i = va_up M.1 j g i; simp [va_up, hij]) rfl rfl)
  unfold pz_e
  have e9 : (va_up M.1 j g, M.2).1 j = g := by show va_up M.1 j g j = g; simp [va_up]
  rcases ht with rfl | rfl
  · rw [hK, e9]
  · rw [hK, e9]
theorem pz_copy (C : pz_C p s m args meth c cc nL own D cy A) {t i j index : Nat} {ty : FieldType} (ht : (t, ty) = (0, .byte) ∨ (t, ty) = (1, .int)) (hi : i < σ.1) (hKi : (σ.2.1 i).1 = t) (hj : j < σ.1) (hKj : (σ.2.1 j).1 = t) {sp dp n : Int32} (g1 : ¬ sp < 0) (g2 : ¬ dp < 0) (g3 : ¬ n < 0) (g4 : sp.toNatClampNeg + n.toNatClampNeg ≤ (σ.2.1 i).2) (g5 : dp.toNatClampNeg + n.toNatClampNeg ≤ (σ.2.1 j).2)
    (hfit : ∀ k, k < n.toNatClampNeg → fits ty (.int (M.1 i (sp.toNatClampNeg + k))) = true) (hw : Cond.methodLink own index arraycopyName ∈ lw_good) (hfr : 1 ≤ R.frames) (hlo : (st.map fun v => v.category).sum + 18 ≤ R.locals) (hd : decode cc pc = .ok (.invokestatic index, 3))
    (kk : pz_W p l e R s m args below meth c nL D cy A n0 ad0 Q σ (va_up M.1 j (va_cpy (M.1 i) (M.1 j) sp.toNatClampNeg dp.toNatClampNeg n.toNatClampNeg), M.2) cells slots (pc + 3) loc st) : pz_W p l e R s m args below meth c nL D cy A n0 ad0 Q σ M cells slots pc loc (.int n :: .int dp :: .ref j :: .int sp :: .ref i :: st) := by
  intro ad H locs ls ha hP hD hS hl
  have h01 : t = 0 ∨ t = 1 := by rcases ht with h | h <;> cases h <;> simp
  have hty : (pz_tys cy)[t]? = some (cy t, ty) := by rcases ht with h | h <;> cases h <;> rfl
  have hpr : refKind ty = false := by rcases ht with h | h <;> cases h <;> rfl
  refine va_copyi C.1.1 C.1.2.1 (by rw [C.1.2.2.1]; exact hl.1.symm) C.1.2.2.2.1 (C.1.2.2.2.2 _ hw) (pz_N.use C.2.2.2.2 ac_nat) (C.1.2.2.2.2 _ ac_stat) (C.1.2.2.2.2 _ ac_ini) C.2.1 hP hD hS i j t t (pz_arK h01 hi hKi) (pz_arK h01 hj hKj) hty hty hpr g1 g2 g3 g4 g5 hfit hfr (by rw [pz_catsum]; exact hlo) hd (fun H1 locs1 hP1 hD1 hS1 => ?_)
  rw [pz_asK h01 hj hKj] at hP1 hD1
  exact kk ad H1 locs1 ls ha hP1 hD1 hS1 hl
theorem pz_mmax (C : pz_C p s m args meth c cc nL own D cy A) {index : Nat} {x y : Int32} (hw1 : Cond.methodLink own index yJ9_max_7cf53 ∈ lw_good) (hfr : 1 ≤ R.frames) (hlo : (st.map fun v => v.category).sum + 13 ≤ R.locals) (hc : cells ≤ R.cells) (hs : slots ≤ R.slots) (hd : decode cc pc = .ok (.invokestatic index, 3)) (kk : pz_W p l e R s m args below meth c nL D cy A n0 ad0 Q σ M cells slots (pc + 3) loc (.int (if x < y then y else x) :: st)) : pz_W p l e R s m args below meth c nL D cy A n0 ad0 Q σ M cells slots pc loc (.int y :: .int x :: st) :=
  fun ad H locs ls ha hP hD hS hl => va_mmax C.1.1 C.1.2.1 (by rw [C.1.2.2.1]; exact hl.1.symm) C.1.2.2.2.1 (C.1.2.2.2.2 _ hw1) (C.1.2.2.2.2 _ sm_yJ9_max_7cf53) (C.1.2.2.2.2 _ ini_J9) (C.1.2.2.2.2 _ wB_yJ9_max_7cf53.2.1) hfr (by rw [pz_catsum]; exact hlo) hc hs hd (kk ad H locs ls ha hP hD hS hl)
theorem pz_mmin (C : pz_C p s m args meth c cc nL own D cy A) {index : Nat} {x y : Int32} (hw1 : Cond.methodLink own index yJ9_min_7cf53 ∈ lw_good) (hfr : 1 ≤ R.frames) (hlo : (st.map fun v => v.category).sum + 13 ≤ R.locals) (hc : cells ≤ R.cells) (hs : slots ≤ R.slots) (hd : decode cc pc = .ok (.invokestatic index, 3)) (kk : pz_W p l e R s m args below meth c nL D cy A n0 ad0 Q σ M cells slots (pc + 3) loc (.int (if y < x then y else x) :: st)) : pz_W p l e R s m args below meth c nL D cy A n0 ad0 Q σ M cells slots pc loc (.int y :: .int x :: st) :=
  fun ad H locs ls ha hP hD hS hl => va_mmin C.1.1 C.1.2.1 (by rw [C.1.2.2.1]; exact hl.1.symm) C.1.2.2.2.1 (C.1.2.2.2.2 _ hw1) (C.1.2.2.2.2 _ sm_yJ9_min_7cf53) (C.1.2.2.2.2 _ ini_J9) (C.1.2.2.2.2 _ wB_yJ9_min_7cf53.2.1) hfr (by rw [pz_catsum]; exact hlo) hc hs hd (kk ad H locs ls ha hP hD hS hl)
end PDA
theorem pv_R_putD {V : pvM} {σ : pzS} {M : pzM} {r k : Nat} {x : Int32} (h : pv_R V σ M) (hr : r < 4) : pv_R (pz_u V (18 + r) k x.toInt) σ (pz_u M.1 (pv_j σ r) k x, M.2) := by
  obtain ⟨h0, h1, h2, ⟨hJ, h3⟩, ⟨hj, h4⟩, ⟨b1, b2, b3⟩, h5⟩ := h
  have hjr := (hJ.1 r hr).1
  have hkj : pv_k σ ≠ pv_j σ r := by
    intro he
    have g1 := (hJ.1 r hr).2.2.2.1
    have g2 := hj.2.2.2.1
    rw [he, g1] at g2
    cases g2
  have e17 : pz_u V (18 + r) k x.toInt 17 0 = V 17 0 := pv_u_ne (by omega)
  have e39 : pz_u V (18 + r) k x.toInt 39 2 = V 39 2 := pv_u_ne (by omega)
  have e28 : pz_u V (18 + r) k x.toInt 28 5 = V 28 5 := pv_u_ne (by omega)
  refine ⟨h0, fun a b hab => ?_, fun a b hab => ?_, ⟨⟨fun t ht => ?_, hJ.2⟩, by rw [e17]; exact h3⟩, ⟨?_, by rw [e39]; exact h4⟩, ⟨fun b => ?_, fun b => ?_, fun b => ?_⟩, ?_⟩
  · have hlt := pv_li_lt hab
    have hdy := pv_li_dyn hab a rfl
    show _ = (pz_u M.1 (pv_j σ r) k x a b).toInt
    rw [pv_u_ne (by omega), pz_u_ne _ _ (by omega)]
    exact h1 a b hab
  · have hdy := pv_ll_lt hab
    rw [pv_u_ne (by omega)]
    exact h2 a b hab
  · obtain ⟨g1, g2, g3, g4, g5⟩ := hJ.1 t ht
    refine ⟨g1, g2, g3, by rw [e17]; exact g4, fun b hb9 => ?_⟩
    rw [e17] at hb9
    show _ = (pz_u M.1 (pv_j σ r) k x (pv_j σ t) b).toInt
    by_cases htr : t = r
    · subst htr
      by_cases hbk : b = k
      · subst hbk; rw [pz_u_eq, pz_u_eq]
      · rw [pv_u_ne (Or.inr hbk), pz_u_ne _ _ (Or.inr hbk)]; exact g5 b hb9
    · have hne : pv_j σ t ≠ pv_j σ r := fun h => htr (hJ.2 t r ht hr h)
      rw [pv_u_ne (Or.inl (by omega)), pz_u_ne _ _ (Or.inl hne)]
      exact g5 b hb9
  · obtain ⟨g1, g2, g3, g4, g5⟩ := hj
    refine ⟨g1, g2, g3, by rw [e39]; exact g4, fun b hb9 => ?_⟩
    rw [e39] at hb9
    show _ = (pz_u M.1 (pv_j σ r) k x (pv_k σ) b).toInt
    rw [pv_u_ne (Or.inl (by omega)), pz_u_ne _ _ (Or.inl hkj)]
    exact g5 b hb9
  · rw [pv_u_ne (Or.inl (by omega))]; exact b1 b
  · rw [pv_u_ne (Or.inl (by omega))]; exact b2 b
  · rw [pv_u_ne (Or.inl (by omega))]; exact b3 b
  · rw [e28]; exact h5
/-- a whole row of bytes anew: 43 or 44 -/
theorem pv_R_rowB {V : pvM} {σ : pzS} {M : pzM} {c : Nat} {g : Nat → Int32} {w : Nat → Int} (h : pv_R V σ M) (hc : c = 43 ∨ c = 44) (hg : ∀ k, w k = (g k).toInt) (hb : ∀ k, -128 ≤ w k ∧ w k < 128) : pv_R (va_up V c w) σ (va_up M.1 c g, M.2) := by
  obtain ⟨h0, h1, h2, ⟨hJ, h3⟩, ⟨hj, h4⟩, ⟨b1, b2, b3⟩, h5⟩ := h
  have ne : ∀ a b, a ≠ c → va_up V c w a b = V a b := fun a b hn => by simp [va_up, hn]
  have e17 : va_up V c w 17 0 = V 17 0 := ne _ _ (by omega)
  have e39 : va_up V c w 39 2 = V 39 2 := ne _ _ (by omega)
  have e28 : va_up V c w 28 5 = V 28 5 := ne _ _ (by omega)
  refine ⟨h0, fun a b hab => ?_, fun a b hab => ?_, ⟨⟨fun t ht => ?_, hJ.2⟩, by rw [e17]; exact h3⟩, ⟨?_, by rw [e39]; exact h4⟩, ⟨fun b => ?_, fun b => ?_, fun b => ?_⟩, ?_⟩
  · show _ = (va_up M.1 c g a b).toInt
    by_cases hac : a = c
    · subst hac; simp only [va_up, if_true]; exact hg b
    · simp only [va_up, if_neg hac]; exact h1 a b hab
  · rw [ne a b (by have := pv_ll_lt hab; omega)]
    exact h2 a b hab
  · obtain ⟨g1, g2, g3, g4, g5⟩ := hJ.1 t ht
    refine ⟨g1, g2, g3, by rw [e17]; exact g4, fun b hb9 => ?_⟩
    rw [e17] at hb9
    show _ = (va_up M.1 c g (pv_j σ t) b).toInt
    rw [ne _ _ (by omega)]
    simp only [va_up, if_neg (show pv_j σ t ≠ c by omega)]
    exact g5 b hb9
  · obtain ⟨g1, g2, g3, g4, g5⟩ := hj
    refine ⟨g1, g2, g3, by rw [e39]; exact g4, fun b hb9 => ?_⟩
    rw [e39] at hb9
    show _ = (va_up M.1 c g (pv_k σ) b).toInt
    rw [ne _ _ (by omega)]
    simp only [va_up, if_neg (show pv_k σ ≠ c by omega)]
    exact g5 b hb9
  · rw [ne _ _ (by omega)]; exact b1 b
  · by_cases hac : 43 = c
    · subst hac; simp only [va_up, if_true]; exact hb b
    · rw [ne _ _ hac]; exact b2 b
  · by_cases hac : 44 = c
    · subst hac; simp only [va_up, if_true]; exact hb b
    · rw [ne _ _ hac]; exact b3 b
  · rw [e28]; exact h5
/-- kept anew, where it lies -/
theorem pv_R_rowK {V : pvM} {σ : pzS} {M : pzM} {g : Nat → Int32} {w : Nat → Int} (h : pv_R V σ M) (hg : ∀ k, k < (V 39 2).toNat → w k = (g k).toInt) (hb : ∀ k, -128 ≤ w k ∧ w k < 128) : pv_R (va_up V 42 w) σ (va_up M.1 (pv_k σ) g, M.2) := by
  obtain ⟨h0, h1, h2, ⟨hJ, h3⟩, ⟨hj, h4⟩, ⟨b1, b2, b3⟩, h5⟩ := h
  have ne : ∀ a b, a ≠ 42 → va_up V 42 w a b = V a b := fun a b hn => by simp [va_up, hn]
  have e17 : va_up V 42 w 17 0 = V 17 0 := ne _ _ (by omega)
  have e39 : va_up V 42 w 39 2 = V 39 2 := ne _ _ (by omega)
  have e28 : va_up V 42 w 28 5 = V 28 5 := ne _ _ (by omega)
  have hkk := hj.1
  refine ⟨h0, fun a b hab => ?_, fun a b hab => ?_, ⟨⟨fun t ht => ?_, hJ.2⟩, by rw [e17]; exact h3⟩, ⟨?_, by rw [e39]; exact h4⟩, ⟨fun b => ?_, fun b => ?_, fun b => ?_⟩, ?_⟩
  · have hlt := pv_li_lt hab
    have hdy := pv_li_dyn hab a rfl
    show _ = (va_up M.1 (pv_k σ) g a b).toInt
    rw [ne _ _ hdy.2]
    simp only [va_up, if_neg (show a ≠ pv_k σ by omega)]
    exact h1 a b hab
  · rw [ne a b (by have := pv_ll_lt hab; omega)]
    exact h2 a b hab
  · obtain ⟨g1, g2, g3, g4, g5⟩ := hJ.1 t ht
    refine ⟨g1, g2, g3, by rw [e17]; exact g4, fun b hb9 => ?_⟩
    rw [e17] at hb9
    have hkj : pv_j σ t ≠ pv_k σ := by
      intro he
      have g9 := hj.2.2.2.1
      rw [← he, g4] at g9
      cases g9
    show _ = (va_up M.1 (pv_k σ) g (pv_j σ t) b).toInt
    rw [ne _ _ (by omega)]
    simp only [va_up, if_neg hkj]
    exact g5 b hb9
  · obtain ⟨g1, g2, g3, g4, g5⟩ := hj
    refine ⟨g1, g2, g3, by rw [e39]; exact g4, fun b hb9 => ?_⟩
    rw [e39] at hb9
    show _ = (va_up M.1 (pv_k σ) g (pv_k σ) b).toInt
    simp only [va_up, if_true]
    exact hg b hb9
  · simp only [va_up, if_true]; exact hb b
  · rw [ne _ _ (by omega)]; exact b2 b
  · rw [ne _ _ (by omega)]; exact b3 b
  · rw [e28]; exact h5
/-- copies between rows of bytes -/
def aC (V : pvM) (c0 n0 c1 n1 : Nat) (sp dp n : Int) (k : pvM → Option pvO) : Option pvO := if 0 ≤ sp ∧ 0 ≤ dp ∧ 0 ≤ n ∧ sp + n ≤ (n0 : Int) ∧ dp + n ≤ (n1 : Int) then k (va_up V c1 (va_cpy (V c0) (V c1) sp.toNat dp.toNat n.toNat)) else none
theorem pv_nn {x : Int32} (h : 0 ≤ x.toInt) : ¬ x < 0 := by
  intro h1
  have := Int32.lt_iff_toInt_lt.mp h1
  rw [Int32.toInt_zero] at this
  omega
theorem pv_fitb {x : Int32} (h : -128 ≤ x.toInt ∧ x.toInt < 128) : fits .byte (.int x) = true := by
  have e1 : -128 ≤ x := Int32.le_iff_toInt_le.mpr (by rw [show (-128 : Int32).toInt = -128 from rfl]; exact h.1)
  have e2 : x ≤ 127 := Int32.le_iff_toInt_le.mpr (by rw [show (127 : Int32).toInt = 127 from rfl]; omega)
  simp [fits, e1, e2]
theorem pv_cuR {V : pvM} {c : Nat} {w : Nat → Int} (h : Nat.blt c 84 = true) : pv_c (va_up V c w) = pv_c V ∧ pv_s (va_up V c w) = pv_s V := by
  have h9 := Nat.blt_eq.mp h
  have ne : ∀ b, va_up V c w 84 b = V 84 b := fun b => by simp [va_up, show 84 ≠ c by omega]
  unfold pv_c pv_s
  rw [ne, ne]
  exact ⟨rfl, rfl⟩
theorem pv_BuR {V0 V : pvM} {c : Nat} {w : Nat → Int} (h : Nat.blt c 84 = true) (hB : pv_B V0 V) : pv_B V0 (va_up V c w) := by
  obtain ⟨e1, e2⟩ := pv_cuR (V := V) (w := w) h
  unfold pv_B at hB ⊢
  rw [e1, e2]
  exact hB
theorem pv_cpyb {f g : Nat → Int} {a b n : Nat} (hf : ∀ k, -128 ≤ f k ∧ f k < 128) (hg : ∀ k, -128 ≤ g k ∧ g k < 128) : ∀ k, -128 ≤ va_cpy f g a b n k ∧ va_cpy f g a b n k < 128 := by
  intro k
  unfold va_cpy
  split
  · exact hf _
  · exact hg _
theorem pv_cpye {f g : Nat → Int} {f' g' : Nat → Int32} {a b n k L : Nat} (hn : a + n ≤ L) (hf : ∀ k, k < L → f k = (f' k).toInt) (hg : g k = (g' k).toInt) : va_cpy f g a b n k = (va_cpy f' g' a b n k).toInt := by
  unfold va_cpy
  split
  · exact hf _ (by omega)
  · exact hg
section PDB
variable {p : Program} {l : Launch} {e : Env} {fr lo : Nat} {s : State} {m : MethodId} {args : Array Value} {below : List Frame} {meth : Method} {c : Code} {cc : ByteArray} {nL : Nat} {own : String} {D : va_G} {cy : Nat → ClassId} {A : Nat → Prop} {n0 : Nat} {ad0 : Nat → Nat} {Q : State → Prop} {V0 V : pvM} {σ : pzS} {pc : Nat} {loc loc' : List (Nat × Value)} {st : List Value} {q : pvO} {kd : Nat}
theorem pv_mmax (C : pz_C p s m args meth c cc nL own D cy A) {k : Int → Option pvO} {index : Nat} {x y : Int32} (hp : lI (if x.toInt < y.toInt then y.toInt else x.toInt) k = some q) (hw1 : Cond.methodLink own index yJ9_max_7cf53 ∈ lw_good) (hfr : 1 ≤ fr) (hlo : (st.map fun v => v.category).sum + 13 ≤ lo) (hd : decode cc pc = .ok (.invokestatic index, 3)) (kk : ∀ z : Int32, k z.toInt = some q → pv_W p l e fr lo s m args below meth c nL D cy A n0 ad0 Q V0 σ V (pc + 3) loc (.int z :: st)) : pv_W p l e fr lo s m args below meth c nL D cy A n0 ad0 Q V0 σ V pc loc (.int y :: .int x :: st) := by
  intro M h1 h2 h3
  have h9 := h3
  unfold pv_B at h9
  refine pz_mmax C hw1 hfr hlo (show pv_c V - pv_c V0 ≤ pv_LC - pv_c V0 by omega) (show pv_s V - pv_s V0 ≤ pv_LS - pv_s V0 by omega) hd (kk _ ?_ M h1 h2 h3)
  by_cases hx : x < y
  · rw [if_pos hx]; rw [if_pos (Int32.lt_iff_toInt_lt.mp hx)] at hp; exact hp
  · rw [if_neg hx]; rw [if_neg (fun g => hx (Int32.lt_iff_toInt_lt.mpr g))] at hp; exact hp
theorem pv_getD (C : pz_C p s m args meth c cc nL own D cy A) {r : Nat} {C1 : String} {T : u_T} {N ci index : Nat} (hin : ∀ w ∈ u_ws C1 T N, w ∈ lw_good) (hc : pz_cl[ci]? = some (C1, T, N)) (hk : r < N) (hlink : Cond.fieldLink own index (T r).1 (T r).2.1 (T r).2.2.1 ∈ lw_good) (hr : r < 4) (hK : (pz_k0 17).1 = ci + 4) (hft : (pz_ft ci)[r]? = some 2) (hd : decode cc pc = .ok (.getfield index, 3)) (kk : pv_W p l e fr lo s m args below meth c nL D cy A n0 ad0 Q V0 σ V (pc + 3) loc (.ref (pv_j σ r) :: st)) : pv_W p l e fr lo s m args below meth c nL D cy A n0 ad0 Q V0 σ V pc loc (.ref 17 :: st) :=
  fun M h1 h2 h3 => pz_getR C hin hc hk hlink (shL h1.1 17 rfl) (shK h1.1 17 rfl hK) hft (h1.2.2.2.1.1.1 r hr).2.2.1 hd (kk M h1 h2 h3)
theorem pv_getK (C : pz_C p s m args meth c cc nL own D cy A) {C1 : String} {T : u_T} {N ci index : Nat} (hin : ∀ w ∈ u_ws C1 T N, w ∈ lw_good) (hc : pz_cl[ci]? = some (C1, T, N)) (hk : 2 < N) (hlink : Cond.fieldLink own index (T 2).1 (T 2).2.1 (T 2).2.2.1 ∈ lw_good) (hK : (pz_k0 39).1 = ci + 4) (hft : (pz_ft ci)[2]? = some 2) (hd : decode cc pc = .ok (.getfield index, 3)) (kk : pv_W p l e fr lo s m args below meth c nL D cy A n0 ad0 Q V0 σ V (pc + 3) loc (.ref (pv_k σ) :: st)) : pv_W p l e fr lo s m args below meth c nL D cy A n0 ad0 Q V0 σ V pc loc (.ref 39 :: st) :=
  fun M h1 h2 h3 => pz_getR C hin hc hk hlink (shL h1.1 39 rfl) (shK h1.1 39 rfl hK) hft h1.2.2.2.2.1.1.2.2.1 hd (kk M h1 h2 h3)
theorem pv_getC (C : pz_C p s m args meth c cc nL own D cy A) {C1 : String} {T : u_T} {N ci index : Nat} (hin : ∀ w ∈ u_ws C1 T N, w ∈ lw_good) (hc : pz_cl[ci]? = some (C1, T, N)) (hk : 5 < N) (hlink : Cond.fieldLink own index (T 5).1 (T 5).2.1 (T 5).2.2.1 ∈ lw_good) (hK : (pz_k0 28).1 = ci + 4) (hft : (pz_ft ci)[5]? = some 2) (hd : decode cc pc = .ok (.getfield index, 3)) (kk : pv_W p l e fr lo s m args below meth c nL D cy A n0 ad0 Q V0 σ V (pc + 3) loc (.ref (pv_cd σ) :: st)) : pv_W p l e fr lo s m args below meth c nL D cy A n0 ad0 Q V0 σ V pc loc (.ref 28 :: st) :=
  fun M h1 h2 h3 => pz_getR C hin hc hk hlink (shL h1.1 28 rfl) (shK h1.1 28 rfl hK) hft h1.2.2.2.2.2.2.1 hd (kk M h1 h2 h3)
theorem pv_ofNat {z : Int} (h0 : 0 ≤ z) (h1 : z < 2147483648) : (Int32.ofNat z.toNat).toInt = z := by
  have e : (Int32.size : Nat) = 4294967296 := rfl
  rw [Int32.toInt_ofNat', e, Int.bmod_def]
  omega
theorem pv_alenD (C : pz_C p s m args meth c cc nL own D cy A) {kt : Int → Option pvO} {r : Nat} (hp : gR V 17 0 kt = some q) (hr : r < 4) (hd : decode cc pc = .ok (.arraylength, 1)) (kk : ∀ z : Int32, kt z.toInt = some q → pv_W p l e fr lo s m args below meth c nL D cy A n0 ad0 Q V0 σ V (pc + 1) loc (.int z :: st)) : pv_W p l e fr lo s m args below meth c nL D cy A n0 ad0 Q V0 σ V pc loc (.ref (pv_j σ r) :: st) := by
  intro M h1 h2 h3
  have g := h1.2.2.2.1.1.1 r hr
  have hc := h1.2.2.2.1.2
  refine pz_alen (t := 1) C g.2.1 (by rw [g.2.2.2.1]) (by decide) rfl hd (kk _ ?_ M h1 h2 h3)
  rw [g.2.2.2.1]
  show kt (Int32.ofNat (V 17 0).toNat).toInt = some q
  rw [pv_ofNat (by omega) (by omega)]
  exact hp
theorem pv_alenK (C : pz_C p s m args meth c cc nL own D cy A) {kt : Int → Option pvO} (hp : gR V 39 2 kt = some q) (hd : decode cc pc = .ok (.arraylength, 1)) (kk : ∀ z : Int32, kt z.toInt = some q → pv_W p l e fr lo s m args below meth c nL D cy A n0 ad0 Q V0 σ V (pc + 1) loc (.int z :: st)) : pv_W p l e fr lo s m args below meth c nL D cy A n0 ad0 Q V0 σ V pc loc (.ref (pv_k σ) :: st) := by
  intro M h1 h2 h3
  have g := h1.2.2.2.2.1.1
  have hc := h1.2.2.2.2.1.2
  refine pz_alen (t := 0) C g.2.1 (by rw [g.2.2.2.1]) (by decide) rfl hd (kk _ ?_ M h1 h2 h3)
  rw [g.2.2.2.1]
  show kt (Int32.ofNat (V 39 2).toNat).toInt = some q
  rw [pv_ofNat (by omega) (by omega)]
  exact hp
theorem pv_ialdD (C : pz_C p s m args meth c cc nL own D cy A) {kt : Int → Option pvO} {r : Nat} {x : Int32} (hp : aR V (18 + r) (V 17 0).toNat x.toInt kt = some q) (hr : r < 4) (hd : decode cc pc = .ok (.iaload, 1)) (kk : ∀ z : Int32, kt z.toInt = some q → pv_W p l e fr lo s m args below meth c nL D cy A n0 ad0 Q V0 σ V (pc + 1) loc (.int z :: st)) : pv_W p l e fr lo s m args below meth c nL D cy A n0 ad0 Q V0 σ V pc loc (.int x :: .ref (pv_j σ r) :: st) := by
  intro M h1 h2 h3
  have g := h1.2.2.2.1.1.1 r hr
  unfold aR at hp
  by_cases hz : 0 ≤ x.toInt ∧ x.toInt < ((V 17 0).toNat : Int)
  · rw [if_pos hz, g.2.2.2.2 _ (by omega)] at hp
    exact pz_iald C g.2.1 (by rw [g.2.2.2.1]) (by rw [g.2.2.2.1]; exact pv_in hz) hd (kk _ hp M h1 h2 h3)
  · rw [if_neg hz] at hp; cases hp
theorem pv_iastD (C : pz_C p s m args meth c cc nL own D cy A) {kt : pvM → Option pvO} {r : Nat} {x y : Int32} (hp : aW V (18 + r) (V 17 0).toNat x.toInt y.toInt kt = some q) (hr : r < 4) (hd : decode cc pc = .ok (.iastore, 1)) (kk : ∀ V' : pvM, kt V' = some q → pv_W p l e fr lo s m args below meth c nL D cy A n0 ad0 Q V0 σ V' (pc + 1) loc st) : pv_W p l e fr lo s m args below meth c nL D cy A n0 ad0 Q V0 σ V pc loc (.int y :: .int x :: .ref (pv_j σ r) :: st) := by
  intro M h1 h2 h3
  have g := h1.2.2.2.1.1.1 r hr
  unfold aW at hp
  by_cases hz : 0 ≤ x.toInt ∧ x.toInt < ((V 17 0).toNat : Int)
  · rw [if_pos hz] at hp
    have h84 : Nat.blt (18 + r) 84 = true := Nat.blt_eq.mpr (by omega)
    have k9 := kk _ hp _ (pv_R_putD h1 hr) h2 (pv_Bu h84 h3)
    rw [(pv_cu (V := V) (k := x.toInt.toNat) (x := y.toInt) h84).1, (pv_cu (V := V) (k := x.toInt.toNat) (x := y.toInt) h84).2] at k9
    exact pz_iast C g.2.1 (by rw [g.2.2.2.1]) (by rw [g.2.2.2.1]; exact pv_in hz) hd k9
  · rw [if_neg hz] at hp; cases hp
/-- between two rows that stay: 43 to 44 -/
theorem pv_copyB (C : pz_C p s m args meth c cc nL own D cy A) {kt : pvM → Option pvO} {i j ni nj index : Nat} {sp dp n : Int32} (hp : aC V i ni j nj sp.toInt dp.toInt n.toInt kt = some q) (hi : i = 43 ∨ i = 44) (hj : j = 43 ∨ j = 44) (hni : (pz_k0 i).2 = ni) (hnj : (pz_k0 j).2 = nj) (hw : Cond.methodLink own index arraycopyName ∈ lw_good) (hfr : 1 ≤ fr) (hlo : (st.map fun v => v.category).sum + 18 ≤ lo) (hd : decode cc pc = .ok (.invokestatic index, 3)) (kk : ∀ V' : pvM, kt V' = some q → pv_W p l e fr lo s m args below meth c nL D cy A n0 ad0 Q V0 σ V' (pc + 3) loc st) : pv_W p l e fr lo s m args below meth c nL D cy A n0 ad0 Q V0 σ V pc loc (.int n :: .int dp :: .ref j :: .int sp :: .ref i :: st) := by
  intro M h1 h2 h3
  unfold aC at hp
  have li : ∀ b, pv_li i b = true := fun b => by rcases hi with rfl | rfl <;> rfl
  have lj : ∀ b, pv_li j b = true := fun b => by rcases hj with rfl | rfl <;> rfl
  have i84 : Nat.blt i 84 = true := by rcases hi with rfl | rfl <;> rfl
  have j84 : Nat.blt j 84 = true := by rcases hj with rfl | rfl <;> rfl
  have ki : (pz_k0 i).1 = 0 := by rcases hi with rfl | rfl <;> rfl
  have kj : (pz_k0 j).1 = 0 := by rcases hj with rfl | rfl <;> rfl
  have bi : pv_byt V i := by rcases hi with rfl | rfl; exact h1.2.2.2.2.2.1.2.1; exact h1.2.2.2.2.2.1.2.2
  have bj : pv_byt V j := by rcases hj with rfl | rfl; exact h1.2.2.2.2.2.1.2.1; exact h1.2.2.2.2.2.1.2.2
  by_cases hz : 0 ≤ sp.toInt ∧ 0 ≤ dp.toInt ∧ 0 ≤ n.toInt ∧ sp.toInt + n.toInt ≤ (ni : Int) ∧ dp.toInt + n.toInt ≤ (nj : Int)
  · rw [if_pos hz] at hp
    have k9 := kk _ hp _ (pv_R_rowB h1 hj (g := va_cpy (M.1 i) (M.1 j) sp.toNatClampNeg dp.toNatClampNeg n.toNatClampNeg) (fun k => pv_cpye (L := sp.toInt.toNat + n.toInt.toNat) (Nat.le_refl _) (fun k _ => h1.2.1 i k (li k)) (h1.2.1 j k (lj k))) (pv_cpyb bi bj)) h2 (pv_BuR j84 h3)
    rw [(pv_cuR (V := V) j84).1, (pv_cuR (V := V) j84).2] at k9
    refine pz_copy (t := 0) C (Or.inl rfl) (shL h1.1 i i84) (shK h1.1 i i84 ki) (shL h1.1 j j84) (shK h1.1 j j84 kj) (pv_nn hz.1) (pv_nn hz.2.1) (pv_nn hz.2.2.1) ?_ ?_ (fun k _ => pv_fitb (by rw [← h1.2.1 i _ (li _)]; exact bi _)) hw hfr hlo hd k9
    · rw [shN h1.1 i i84 hni]
      show sp.toInt.toNat + n.toInt.toNat ≤ _
      omega
    · rw [shN h1.1 j j84 hnj]
      show dp.toInt.toNat + n.toInt.toNat ≤ _
      omega
  · rw [if_neg hz] at hp; cases hp
/-- out of kept into 43 -/
theorem pv_copyKB (C : pz_C p s m args meth c cc nL own D cy A) {kt : pvM → Option pvO} {index : Nat} {sp dp n : Int32} (hp : aC V 42 (V 39 2).toNat 43 200 sp.toInt dp.toInt n.toInt kt = some q) (hw : Cond.methodLink own index arraycopyName ∈ lw_good) (hfr : 1 ≤ fr) (hlo : (st.map fun v => v.category).sum + 18 ≤ lo) (hd : decode cc pc = .ok (.invokestatic index, 3)) (kk : ∀ V' : pvM, kt V' = some q → pv_W p l e fr lo s m args below meth c nL D cy A n0 ad0 Q V0 σ V' (pc + 3) loc st) : pv_W p l e fr lo s m args below meth c nL D cy A n0 ad0 Q V0 σ V pc loc (.int n :: .int dp :: .ref 43 :: .int sp :: .ref (pv_k σ) :: st) := by
  intro M h1 h2 h3
  unfold aC at hp
  have g := h1.2.2.2.2.1.1
  have bi : pv_byt V 42 := h1.2.2.2.2.2.1.1
  have bj : pv_byt V 43 := h1.2.2.2.2.2.1.2.1
  by_cases hz : 0 ≤ sp.toInt ∧ 0 ≤ dp.toInt ∧ 0 ≤ n.toInt ∧ sp.toInt + n.toInt ≤ ((V 39 2).toNat : Int) ∧ dp.toInt + n.toInt ≤ ((200 : Nat) : Int)
  · rw [if_pos hz] at hp
    have k9 := kk _ hp _ (pv_R_rowB h1 (Or.inl rfl) (g := va_cpy (M.1 (pv_k σ)) (M.1 43) sp.toNatClampNeg dp.toNatClampNeg n.toNatClampNeg) (fun k => pv_cpye (L := (V 39 2).toNat) (by omega) (fun k hk => g.2.2.2.2 k hk) (h1.2.1 43 k rfl)) (pv_cpyb bi bj)) h2 (pv_BuR rfl h3)
    rw [(pv_cuR (V := V) (c := 43) rfl).1, (pv_cuR (V := V) (c := 43) rfl).2] at k9
    refine pz_copy (t := 0) C (Or.inl rfl) g.2.1 (by rw [g.2.2.2.1]) (shL h1.1 43 rfl) (shK h1.1 43 rfl rfl) (pv_nn hz.1) (pv_nn hz.2.1) (pv_nn hz.2.2.1) ?_ ?_ (fun k hk => pv_fitb ?_) hw hfr hlo hd k9
    · rw [g.2.2.2.1]
      show sp.toInt.toNat + n.toInt.toNat ≤ (V 39 2).toNat
      omega
    · rw [shN h1.1 43 rfl rfl]
      show dp.toInt.toNat + n.toInt.toNat ≤ 200
      omega
    · have hk9 : k < n.toInt.toNat := hk
      rw [← g.2.2.2.2 _ (by show sp.toInt.toNat + k < _; omega)]
      exact bi _
  · rw [if_neg hz] at hp; cases hp
/-- out of 43 into kept -/
theorem pv_copyBK (C : pz_C p s m args meth c cc nL own D cy A) {kt : pvM → Option pvO} {index : Nat} {sp dp n : Int32} (hp : aC V 43 200 42 (V 39 2).toNat sp.toInt dp.toInt n.toInt kt = some q) (hw : Cond.methodLink own index arraycopyName ∈ lw_good) (hfr : 1 ≤ fr) (hlo : (st.map fun v => v.category).sum + 18 ≤ lo) (hd : decode cc pc = .ok (.invokestatic index, 3)) (kk : ∀ V' : pvM, kt V' = some q → pv_W p l e fr lo s m args below meth c nL D cy A n0 ad0 Q V0 σ V' (pc + 3) loc st) : pv_W p l e fr lo s m args below meth c nL D cy A n0 ad0 Q V0 σ V pc loc (.int n :: .int dp :: .ref (pv_k σ) :: .int sp :: .ref 43 :: st) := by
  intro M h1 h2 h3
  unfold aC at hp
  have g := h1.2.2.2.2.1.1
  have bj : pv_byt V 42 := h1.2.2.2.2.2.1.1
  have bi : pv_byt V 43 := h1.2.2.2.2.2.1.2.1
  by_cases hz : 0 ≤ sp.toInt ∧ 0 ≤ dp.toInt ∧ 0 ≤ n.toInt ∧ sp.toInt + n.toInt ≤ ((200 : Nat) : Int) ∧ dp.toInt + n.toInt ≤ ((V 39 2).toNat : Int)
  · rw [if_pos hz] at hp
    have k9 := kk _ hp _ (pv_R_rowK h1 (g := va_cpy (M.1 43) (M.1 (pv_k σ)) sp.toNatClampNeg dp.toNatClampNeg n.toNatClampNeg) (fun k hk => pv_cpye (L := sp.toInt.toNat + n.toInt.toNat) (Nat.le_refl _) (fun k _ => h1.2.1 43 k rfl) (g.2.2.2.2 k hk)) (pv_cpyb bi bj)) h2 (pv_BuR rfl h3)
    rw [(pv_cuR (V := V) (c := 42) rfl).1, (pv_cuR (V := V) (c := 42) rfl).2] at k9
    refine pz_copy (t := 0) C (Or.inl rfl) (shL h1.1 43 rfl) (shK h1.1 43 rfl rfl) g.2.1 (by rw [g.2.2.2.1]) (pv_nn hz.1) (pv_nn hz.2.1) (pv_nn hz.2.2.1) ?_ ?_ (fun k _ => pv_fitb (by rw [← h1.2.1 43 _ rfl]; exact bi _)) hw hfr hlo hd k9
    · rw [shN h1.1 43 rfl rfl]
      show sp.toInt.toNat + n.toInt.toNat ≤ 200
      omega
    · rw [g.2.2.2.1]
      show dp.toInt.toNat + n.toInt.toNat ≤ (V 39 2).toNat
      omega
  · rw [if_neg hz] at hp; cases hp
end PDB
