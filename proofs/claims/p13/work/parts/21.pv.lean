/-! VIRTUAL MEMORY: one table of ints (cell, place); the rows of Instructions (18 to 21) and Texts.kept (42) stand for those that are there now; 17 0: how long the rows are, 39 2: how long kept is, 28 5: which code the machine runs; 84 0 and 84 1: cells and slots used since the constructors -/
abbrev pvM : Type := Nat → Nat → Int
abbrev pvO : Type := Nat × Int × pvM
def pv_w (z : Int) : Int := z.bmod (2 ^ 32)
def pv_wl (z : Int) : Int := z.bmod (2 ^ 64)
def pv_wb (z : Int) : Int := z.bmod (2 ^ 8)
def pv_cmp (x y : Int) : Int := if y < x then 1 else if x = y then 0 else -1
def pv_andl (x y : Int) : Int := (Int64.ofInt x &&& Int64.ofInt y).toInt
def pv_orl (x y : Int) : Int := (Int64.ofInt x ||| Int64.ofInt y).toInt
def pv_shl (x y : Int) : Int := (Int64.ofInt x <<< ((Int32.ofInt y).toInt64 &&& 63)).toInt
def pv_shr (x y : Int) : Int := (Int64.ofInt x >>> ((Int32.ofInt y).toInt64 &&& 63)).toInt
def pv_div (x y : Int) : Int := (Int64.ofInt x / Int64.ofInt y).toInt
def pv_rem (x y : Int) : Int := (Int64.ofInt x - Int64.ofInt x / Int64.ofInt y * Int64.ofInt y).toInt
def pv_neg (x : Int) : Int := (-(Int64.ofInt x)).toInt
/-! the pure programs' words -/
def lI {α : Type} (x : Int) (k : Int → α) : α := k x
def gR (V : pvM) (c i : Nat) (k : Int → Option pvO) : Option pvO := k (V c i)
def gW (V : pvM) (c i : Nat) (x : Int) (k : pvM → Option pvO) : Option pvO := k (pz_u V c i x)
def aR (V : pvM) (c n : Nat) (i : Int) (k : Int → Option pvO) : Option pvO := if 0 ≤ i ∧ i < (n : Int) then k (V c i.toNat) else none
def aW (V : pvM) (c n : Nat) (i x : Int) (k : pvM → Option pvO) : Option pvO := if 0 ≤ i ∧ i < (n : Int) then k (pz_u V c i.toNat x) else none
def bT (x : Int) (k : Option pvO) : Option pvO := if x = 0 ∨ x = 1 then k else none
def nZ (x : Int) (k : Option pvO) : Option pvO := if x = 0 then none else k
def cL (o : Option pvO) (k : Int → pvM → Option pvO) : Option pvO := match o with
  | some (0, r, V) => k r V
  | _ => none
def rT (V : pvM) (x : Int) : Option pvO := some (0, x, V)
def pv_LC : Nat := 8000
def pv_LS : Nat := 1000000
def pv_c (V : pvM) : Nat := (V 84 0).toNat
def pv_s (V : pvM) : Nat := (V 84 1).toNat
/-- a throw: one cell, six slots -/
def tH (V : pvM) (e : Nat) : Option pvO := if 0 ≤ V 84 0 ∧ 0 ≤ V 84 1 ∧ V 84 0 + 1 ≤ (pv_LC : Int) ∧ V 84 1 + 6 ≤ (pv_LS : Int) then some (e, 0, pz_u (pz_u V 84 0 (V 84 0 + 1)) 84 1 (V 84 1 + 6)) else none
/-! what is kept where -/
def pv_li (c k : Nat) : Bool := Nat.blt c 84 && (!(c == 18 || c == 19 || c == 20 || c == 21 || c == 42) && (!(c == 30 || c == 34 || c == 38 || c == 83) && (!(c == 28 && (k == 9 || k == 5)) && (!(c == 17 && Nat.blt k 4) && !(c == 39 && k == 2)))))
def pv_lp (c k : Nat) : Bool := pv_li c k && !(c == 43 || c == 44)
def pv_ll (c k : Nat) : Bool := (c == 30 || c == 34 || c == 38 || c == 83) || (c == 28 && k == 9)
/-- where the rows, kept and the code lie now -/
def pv_j (σ : pzS) (r : Nat) : Nat := (σ.2.2 17 r).getD 0
def pv_k (σ : pzS) : Nat := (σ.2.2 39 2).getD 0
def pv_cd (σ : pzS) : Nat := (σ.2.2 28 5).getD 0
def pv_rows (V : pvM) (σ : pzS) (M : pzM) : Prop := (∀ r, r < 4 → (pv_j σ r = 18 + r ∨ 84 ≤ pv_j σ r) ∧ pv_j σ r < σ.1 ∧ σ.2.2 17 r = some (pv_j σ r) ∧ σ.2.1 (pv_j σ r) = (1, (V 17 0).toNat) ∧ ∀ k, k < (V 17 0).toNat → V (18 + r) k = (M.1 (pv_j σ r) k).toInt) ∧ (∀ r t, r < 4 → t < 4 → pv_j σ r = pv_j σ t → r = t)
def pv_kept (V : pvM) (σ : pzS) (M : pzM) : Prop := (pv_k σ = 42 ∨ 84 ≤ pv_k σ) ∧ pv_k σ < σ.1 ∧ σ.2.2 39 2 = some (pv_k σ) ∧ σ.2.1 (pv_k σ) = (0, (V 39 2).toNat) ∧ ∀ k, k < (V 39 2).toNat → V 42 k = (M.1 (pv_k σ) k).toInt
def pv_byt (V : pvM) (c : Nat) : Prop := ∀ k, -128 ≤ V c k ∧ V c k < 128
def pv_R (V : pvM) (σ : pzS) (M : pzM) : Prop := pz_sh σ ∧ (∀ c k, pv_li c k = true → V c k = (M.1 c k).toInt) ∧ (∀ c k, pv_ll c k = true → V c k = (M.2 c k).toInt) ∧
  (pv_rows V σ M ∧ (64 ≤ V 17 0 ∧ V 17 0 ≤ 32768)) ∧ (pv_kept V σ M ∧ (200 ≤ V 39 2 ∧ V 39 2 ≤ 80000)) ∧ (pv_byt V 42 ∧ pv_byt V 43 ∧ pv_byt V 44) ∧ (σ.2.2 28 5 = some (pv_cd σ) ∧ V 28 5 = (pv_cd σ : Int) ∧ (pv_cd σ = 1 ∨ pv_cd σ = 16))
theorem pv_li_lt {c k : Nat} (h : pv_li c k = true) : c < 84 := by
  unfold pv_li at h
  simp only [Bool.and_eq_true] at h
  exact Nat.blt_eq.mp h.1
theorem pv_li_dyn {c k : Nat} (h : pv_li c k = true) : ∀ j, (j = c) → ¬ (18 ≤ j ∧ j ≤ 21) ∧ j ≠ 42 := by
  intro j hj
  subst hj
  unfold pv_li at h
  simp only [Bool.and_eq_true, Bool.not_eq_true', Bool.or_eq_false_iff, beq_eq_false_iff_ne] at h
  omega
theorem pv_li_ps {c k : Nat} (h : pv_li c k = true) : (c ≠ 17 ∨ 0 ≠ k) ∧ (c ≠ 39 ∨ 2 ≠ k) ∧ (c ≠ 28 ∨ 5 ≠ k) := by
  have key : ∀ a b, pv_li a b = false → (c ≠ a ∨ b ≠ k) := by
    intro a b hab
    by_cases hc : c = a
    · by_cases hk : b = k
      · subst hc; subst hk; rw [hab] at h; cases h
      · exact Or.inr hk
    · exact Or.inl hc
  exact ⟨key 17 0 rfl, key 39 2 rfl, key 28 5 rfl⟩
theorem pv_ll_lt {c k : Nat} (h : pv_ll c k = true) : c < 84 ∧ ¬ (18 ≤ c ∧ c ≤ 21) ∧ c ≠ 42 ∧ c ≠ 43 ∧ c ≠ 44 ∧ c ≠ 17 ∧ c ≠ 39 ∧ (c ≠ 28 ∨ 5 ≠ k) := by
  unfold pv_ll at h
  simp only [Bool.or_eq_true, Bool.and_eq_true, beq_iff_eq] at h
  omega
theorem pv_lil {c k : Nat} (h : pv_li c k = true) : pv_ll c k = false := by
  cases hll : pv_ll c k with
  | false => rfl
  | true =>
    unfold pv_li at h
    unfold pv_ll at hll
    simp only [Bool.and_eq_true, Bool.not_eq_true', Bool.or_eq_false_iff, Bool.and_eq_false_iff, beq_eq_false_iff_ne, Bool.or_eq_true, beq_iff_eq] at h hll
    omega
theorem pv_u_ne {V : pvM} {c k a b : Nat} {x : Int} (h : a ≠ c ∨ b ≠ k) : pz_u V c k x a b = V a b := pz_u_ne V x h
/-- a place is written: an int's -/
theorem pv_R_put {V : pvM} {σ : pzS} {M : pzM} {c k : Nat} {x : Int32} (h : pv_R V σ M) (hl : pv_li c k = true) (hb : (c ≠ 43 ∧ c ≠ 44) ∨ (-128 ≤ x.toInt ∧ x.toInt < 128)) : pv_R (pz_u V c k x.toInt) σ (pz_u M.1 c k x, M.2) := by
  obtain ⟨h0, h1, h2, ⟨hJ, h3⟩, ⟨hj, h4⟩, ⟨b1, b2, b3⟩, h5⟩ := h
  have hlt := pv_li_lt hl
  have hdy := pv_li_dyn hl c rfl
  have hps := pv_li_ps hl
  have e17 : pz_u V c k x.toInt 17 0 = V 17 0 := pv_u_ne (by omega)
  have e39 : pz_u V c k x.toInt 39 2 = V 39 2 := pv_u_ne (by omega)
  have e28 : pz_u V c k x.toInt 28 5 = V 28 5 := pv_u_ne (by omega)
  refine ⟨h0, fun a b hab => ?_, fun a b hab => ?_, ⟨⟨fun r hr => ?_, hJ.2⟩, by rw [e17]; exact h3⟩, ⟨?_, by rw [e39]; exact h4⟩, ⟨fun b => ?_, fun b => ?_, fun b => ?_⟩, ?_⟩
  · by_cases he : a = c ∧ b = k
    · obtain ⟨rfl, rfl⟩ := he
      show _ = (pz_u M.1 a b x a b).toInt
      rw [pz_u_eq, pz_u_eq]
    · have hne : a ≠ c ∨ b ≠ k := by omega
      show _ = (pz_u M.1 c k x a b).toInt
      rw [pv_u_ne hne, pz_u_ne _ _ hne]
      exact h1 a b hab
  · have hne : a ≠ c ∨ b ≠ k := by
      refine Decidable.byContradiction fun hn => ?_
      have ha : a = c := by omega
      have hb9 : b = k := by omega
      subst ha; subst hb9
      rw [pv_lil hl] at hab
      cases hab
    rw [pv_u_ne hne]
    exact h2 a b hab
  · obtain ⟨g1, g2, g3, g4, g5⟩ := hJ.1 r hr
    refine ⟨g1, g2, g3, by rw [e17]; exact g4, fun b hb9 => ?_⟩
    rw [e17] at hb9
    show _ = (pz_u M.1 c k x (pv_j σ r) b).toInt
    rw [pv_u_ne (Or.inl (by omega)), pz_u_off (j := pv_j σ r) (i := c) _ _ _ (by omega)]
    exact g5 b hb9
  · obtain ⟨g1, g2, g3, g4, g5⟩ := hj
    refine ⟨g1, g2, g3, by rw [e39]; exact g4, fun b hb9 => ?_⟩
    rw [e39] at hb9
    show _ = (pz_u M.1 c k x (pv_k σ) b).toInt
    rw [pv_u_ne (Or.inl (by omega)), pz_u_off (j := pv_k σ) (i := c) _ _ _ (by omega)]
    exact g5 b hb9
  · rw [pv_u_ne (Or.inl (by omega))]; exact b1 b
  · by_cases he : 43 = c ∧ b = k
    · obtain ⟨rfl, rfl⟩ := he
      rw [pz_u_eq]
      omega
    · rw [pv_u_ne (by omega)]; exact b2 b
  · by_cases he : 44 = c ∧ b = k
    · obtain ⟨rfl, rfl⟩ := he
      rw [pz_u_eq]
      omega
    · rw [pv_u_ne (by omega)]; exact b3 b
  · rw [e28]; exact h5
/-- a long's -/
theorem pv_R_putL {V : pvM} {σ : pzS} {M : pzM} {c k : Nat} {x : Int64} (h : pv_R V σ M) (hl : pv_ll c k = true) : pv_R (pz_u V c k x.toInt) σ (M.1, pz_u M.2 c k x) := by
  obtain ⟨h0, h1, h2, ⟨hJ, h3⟩, ⟨hj, h4⟩, ⟨b1, b2, b3⟩, h5⟩ := h
  obtain ⟨hlt, hd1, hd2, hd3, hd4, hd5, hd6, hd7⟩ := pv_ll_lt hl
  have e17 : pz_u V c k x.toInt 17 0 = V 17 0 := pv_u_ne (by omega)
  have e39 : pz_u V c k x.toInt 39 2 = V 39 2 := pv_u_ne (by omega)
  have e28 : pz_u V c k x.toInt 28 5 = V 28 5 := pv_u_ne (by omega)
  refine ⟨h0, fun a b hab => ?_, fun a b hab => ?_, ⟨⟨fun r hr => ?_, hJ.2⟩, by rw [e17]; exact h3⟩, ⟨?_, by rw [e39]; exact h4⟩, ⟨fun b => ?_, fun b => ?_, fun b => ?_⟩, ?_⟩
  · have hne : a ≠ c ∨ b ≠ k := by
      refine Decidable.byContradiction fun hn => ?_
      have ha : a = c := by omega
      have hb9 : b = k := by omega
      subst ha; subst hb9
      rw [pv_lil hab] at hl
      cases hl
    rw [pv_u_ne hne]
    exact h1 a b hab
  · by_cases he : a = c ∧ b = k
    · obtain ⟨rfl, rfl⟩ := he
      show _ = (pz_u M.2 a b x a b).toInt
      rw [pz_u_eq, pz_u_eq]
    · have hne : a ≠ c ∨ b ≠ k := by omega
      show _ = (pz_u M.2 c k x a b).toInt
      rw [pv_u_ne hne, pz_u_ne _ _ hne]
      exact h2 a b hab
  · obtain ⟨g1, g2, g3, g4, g5⟩ := hJ.1 r hr
    refine ⟨g1, g2, g3, by rw [e17]; exact g4, fun b hb9 => ?_⟩
    rw [e17] at hb9
    rw [pv_u_ne (Or.inl (by omega))]
    exact g5 b hb9
  · obtain ⟨g1, g2, g3, g4, g5⟩ := hj
    refine ⟨g1, g2, g3, by rw [e39]; exact g4, fun b hb9 => ?_⟩
    rw [e39] at hb9
    rw [pv_u_ne (Or.inl (by omega))]
    exact g5 b hb9
  · rw [pv_u_ne (Or.inl (by omega))]; exact b1 b
  · rw [pv_u_ne (Or.inl (by omega))]; exact b2 b
  · rw [pv_u_ne (Or.inl (by omega))]; exact b3 b
  · rw [e28]; exact h5
theorem pv_in {x : Int32} {n : Nat} (h : 0 ≤ x.toInt ∧ x.toInt < (n : Int)) : vp_in x n := by
  unfold vp_in
  intro hn
  rcases hn with h1 | h1
  · have := Int32.lt_iff_toInt_lt.mp h1
    rw [Int32.toInt_zero] at this
    omega
  · have h2 : n ≤ x.toInt.toNat := h1
    omega
theorem pv_cmp_e (x y : Int64) : (lg_cmp x y).toInt = pv_cmp x.toInt y.toInt := by
  unfold lg_cmp pv_cmp
  by_cases h1 : x > y
  · rw [if_pos h1, if_pos (Int64.lt_iff_toInt_lt.mp h1)]; rfl
  · rw [if_neg h1, if_neg (fun h => h1 (Int64.lt_iff_toInt_lt.mpr h))]
    by_cases h2 : x = y
    · subst h2; rw [if_pos rfl, if_pos rfl]; rfl
    · rw [if_neg h2, if_neg (fun h => h2 (Int64.toInt_inj.mp h))]; rfl
theorem pv_nar_b (y : Int32) : (vp_nar .byte y).toInt = pv_wb y.toInt := by
  show y.toInt8.toInt32.toInt = _
  rw [Int8.toInt_toInt32, Int32.toInt_toInt8]; rfl
theorem pv_nar_z {y : Int32} (h : y.toInt = 0 ∨ y.toInt = 1) : vp_nar .boolean y = y ∧ narrow .boolean (.int y) = .int y ∧ fits .boolean (.int y) = true := by
  have h9 : y = 0 ∨ y = 1 := by
    rcases h with h | h
    · exact Or.inl (Int32.toInt_inj.mp (h.trans rfl))
    · exact Or.inr (Int32.toInt_inj.mp (h.trans rfl))
  rcases h9 with rfl | rfl <;> exact ⟨rfl, rfl, rfl⟩
theorem pv_wb_r (z : Int) : -128 ≤ pv_wb z ∧ pv_wb z < 128 := by
  unfold pv_wb
  rw [Int.bmod_def]
  omega
/-! CALLS WHOSE ROOM AND USE ARE TWO THINGS -/
section PVB
variable {p : Program} {l : Launch} {e : Env} {R : Room} {s : State} {m : MethodId} {args : Array Value} {below : List Frame} {meth : Method} {c : Code} {H : Heap} {locs : List Loc} {cells slots : Nat}
variable {y : MethodName} {bytes cc : ByteArray} {maxL nL mc ms RC RS n index : Nat} {ret : Option FieldType} {ws : List Cond} {rm : Room} {Pc : Array Value → State → Prop} {Qc : Array Value → State → Outcome → State → Prop} {free : Addr → Prop} {Ts : List Cond} {own C : String} {b : Addr} {As rest : List Value} {g : JFrame}
theorem pv_back {len : Nat} (hM : Met l y ws rm Pc Qc mc ms free) (hbl : FrameBlind Pc) (hrc : rm.cells = RC) (hrs : rm.slots = RS) (hframes : rm.frames + 1 ≤ R.frames) (hlocals : 8 + (maxL + 11) + rm.locals ≤ R.locals)
    (hws : ∀ w ∈ ws, ∀ a' U, s.WarmedH U.vm → w.before a' U = true) (hcode : Cond.code y bytes maxL ret ∈ ws) (hini : (Cond.initialized y.cls).before args s = true) : Back l R p e below s args y len 8 (PreOf R RC RS Pc) (PostOf Qc mc ms free) := by
  have hinit : ∀ a' U, s.WarmedH U.vm → (Cond.initialized y.cls).before a' U = true := fun a' U hW => word_at hW (Or.inl (by first | rfl | simp [Cond.onTables, Cond.keeps, Cond.steady])) hini
  refine Back.of_free (S := headSpec ws rm) (P := Pc) (K := fun _ _ _ _ _ => True) (Q := fun a st o t => Qc a st o t ∧ ∃ L, FrameEnd st o t L mc ms ∧ ∀ q ∈ L, free q.base) (bytes := bytes) (maxL := maxL) (ret := ret)
    (E := fun a st o t L k n => k = mc ∧ n = ms ∧ ∀ q ∈ L, free q.base) hM hframes hlocals ?_ ?_ (fun _ _ _ _ _ _ _ _ _ => trivial) ?_ ?_
  · intro m meth c A a X hp
    exact ⟨atoms_intro fun w hw => hws w hw _ _ X.warmed, hws _ hcode _ _ X.warmed, hinit _ _ X.warmed, by rw [show (headSpec ws rm).room.cells = RC from hrc]; exact hp.1, by rw [show (headSpec ws rm).room.slots = RS from hrs]; exact hp.2.1⟩
  · intro m meth c A a g mk X hp
    exact hbl _ _ _ _ hp.2.2
  · intro a st o t ⟨hq, L, hF, hL⟩
    exact ⟨L, mc, ms, hF, rfl, rfl, hL⟩
  · intro m meth c A a g mk v t L k n X hp hq hF ⟨e1, e2, hL⟩
    subst e1; subst e2
    exact ⟨g, mk, t, L, rfl, rfl, hq.1, rfl, hL, rfl, rfl⟩
theorem pv_runV (S : CallFix p m c cc nL s args Ts own) (hM : Met l y ws rm Pc Qc mc ms free) (cw : CallW R s args own C index y bytes maxL ret ws rm RC RS n) (hp : PreV s H C b Pc As)
    (hg : g.method = m) (hn : As.length = n) (hsize : g.locals.size = nL) (hstack : g.stack = As.reverse ++ .ref b :: rest) (hW : 2 * g.monitorRoom + (rest.map fun v => v.category).sum ≤ 8) (hdg : decode cc g.pc = .ok (.invokevirtual index, 3)) (hf : cells + RC ≤ R.cells ∧ slots + RS ≤ R.slots) :
    va_Run p l e R s m args below meth c H locs cells slots mc ms g rest (Qc (Value.ref b :: As).toArray) (free) := by
  obtain ⟨⟨hrc, hrs, hfr, hlo, hws, hcw, hcode, hini, hy, hlen, hl⟩, hin, hse⟩ := cw
  have hK : Back l R p e below s args y 3 8 (PreOf R RC RS Pc) (PostOf Qc mc ms free) := pv_back (bytes := bytes) (maxL := maxL) (ret := ret) hM hp.1 hrc hrs hfr hlo hws hcw hini
  obtain ⟨hx, hb, hml, ho, -⟩ := S
  obtain ⟨-, ⟨cellB, hcB, hoB, hclB⟩, hPc⟩ := hp
  intro T hT X
  obtain ⟨v, vm₁, ⟨U', l2, c2, s2⟩, hW₁, X', ⟨g', mk, t, L, e1, e2, hq, h1, hL, h2, h3⟩, st⟩ := callV X hx (C := C) (bytes := bytes) (maxL := maxL) (ret := ret) ho hl hin hse hcode hy hK (by rw [hT]; exact hcB) hoB hclB hg (hsize.trans hml.symm) (argsL := As) (rest := rest) (fun sig h => hn.trans (hlen sig h)) hstack hW (by rw [hb]; exact hdg)
    (fun vm₁ hW₁ => ⟨hf.1, hf.2, hPc (T.setVm vm₁) hT hW₁⟩)
  dsimp only [Pt.U, Pt.locs, Pt.cells, Pt.slots] at X' e1 e2 h1 h2 h3 st
  subst h1; subst h2; subst h3
  exact ⟨v, (T.setVm vm₁).calling g' mk (Value.ref b :: As).toArray, t, U', L, hT, X', hL, e1, e2, hq, st⟩
theorem pv_runS (S : CallFix p m c cc nL s args Ts own) (hM : Met l y ws rm Pc Qc mc ms free) (cw : CallB R s args own index y bytes maxL ret ws rm RC RS n ∧ (Cond.static y).before args s = true) (hp : PreS s H Pc As)
    (hg : g.method = m) (hn : As.length = n) (hsize : g.locals.size = nL) (hstack : g.stack = As.reverse ++ rest) (hW : 2 * g.monitorRoom + (rest.map fun v => v.category).sum ≤ 8) (hdg : decode cc g.pc = .ok (.invokestatic index, 3)) (hf : cells + RC ≤ R.cells ∧ slots + RS ≤ R.slots) :
    va_Run p l e R s m args below meth c H locs cells slots mc ms g rest (Qc As.toArray) (free) := by
  obtain ⟨⟨hrc, hrs, hfr, hlo, hws, hcw, hcode, hini, hy, hlen, hl⟩, hstt⟩ := cw
  have hK : Back l R p e below s args y 3 8 (PreOf R RC RS Pc) (PostOf Qc mc ms free) := pv_back (bytes := bytes) (maxL := maxL) (ret := ret) hM hp.1 hrc hrs hfr hlo hws hcw hini
  obtain ⟨hx, hb, hml, ho, -⟩ := S
  intro T hT X
  obtain ⟨v, vm₁, ⟨U', l2, c2, s2⟩, hW₁, X', ⟨g', mk, t, L, e1, e2, hq, h1, hL, h2, h3⟩, st⟩ := callS X hx (bytes := bytes) (maxL := maxL) (ret := ret) ho hl hstt hini hcode hy hK hg (hsize.trans hml.symm) (argsL := As) (rest := rest) (fun sig h => hn.trans (hlen sig h)) hstack hW (by rw [hb]; exact hdg)
    (fun vm₁ hW₁ => ⟨hf.1, hf.2, hp.2 (T.setVm vm₁) hT hW₁⟩)
  dsimp only [Pt.U, Pt.locs, Pt.cells, Pt.slots] at X' e1 e2 h1 h2 h3 st
  subst h1; subst h2; subst h3
  exact ⟨v, (T.setVm vm₁).calling g' mk As.toArray, t, U', L, hT, X', hL, e1, e2, hq, st⟩
theorem pv_runSN {host : String} (S : CallFix p m c cc nL s args Ts own) (hM : Met l y ws rm Pc Qc mc ms free) (cw : va_CN R s args own index y host bytes maxL ret ws rm RC RS n ∧ (Cond.static y).before args s = true ∧ True) (hp : PreS s H Pc As)
    (hg : g.method = m) (hn : As.length = n) (hsize : g.locals.size = nL) (hstack : g.stack = As.reverse ++ rest) (hW : 2 * g.monitorRoom + (rest.map fun v => v.category).sum ≤ 8) (hdg : decode cc g.pc = .ok (.invokestatic index, 3)) (hf : cells + RC ≤ R.cells ∧ slots + RS ≤ R.slots) :
    va_Run p l e R s m args below meth c H locs cells slots mc ms g rest (Qc As.toArray) (free) := by
  obtain ⟨⟨⟨hrc, hrs, hfr, hlo, hws, hcw⟩, hcode, hini, hy, hlen, hl⟩, hx1, hx2⟩ := cw
  have hK : Back l R p e below s args y 3 8 (PreOf R RC RS Pc) (PostOf Qc mc ms free) := pv_back (bytes := bytes) (maxL := maxL) (ret := ret) hM hp.1 hrc hrs hfr hlo hws hcw hini
  obtain ⟨hx, hb, hml, ho, -⟩ := S
  have hPc := hp.2
  intro T hT X
  obtain ⟨v, vm₁, ⟨U', l2, c2, s2⟩, hW₁, X', ⟨g', mk, t, L, e1, e2, hq, h1, hL, h2, h3⟩, st⟩ := va_callSN X hx (bytes := bytes) (maxL := maxL) (ret := ret) ho hl hx1 hini hcode hy hK hg (hsize.trans hml.symm) (argsL := As) (rest := rest) (fun sig h => hn.trans (hlen sig h)) hstack hW (by rw [hb]; exact hdg)
    (fun vm₁ hW₁ => ⟨hf.1, hf.2, hPc (T.setVm vm₁) hT hW₁⟩)
  dsimp only [Pt.U, Pt.locs, Pt.cells, Pt.slots] at X' e1 e2 h1 h2 h3 st
  subst h1; subst h2; subst h3
  exact ⟨v, (T.setVm vm₁).calling g' mk As.toArray, t, U', L, hT, X', hL, e1, e2, hq, st⟩
end PVB
/-! THE LIFTED WALK -/
def pv_B (V0 V : pvM) : Prop := pv_c V0 ≤ pv_c V ∧ pv_c V ≤ pv_LC ∧ pv_s V0 ≤ pv_s V ∧ pv_s V ≤ pv_LS
def pv_rv (kd : Nat) (z : Int) (r : Option Value) : Prop := match kd with
  | 0 => r = none
  | 1 => ∃ x : Int32, r = some (.int x) ∧ x.toInt = z
  | 2 => ∃ x : Int64, r = some (.long x) ∧ x.toInt = z
  | n + 3 => r = some (.ref n)
def pv_post (kd : Nat) (V0 : pvM) (q : pvO) (n0 : Nat) : Option Value → pzS → pzM → Prop := fun r σ M => q.1 = 0 ∧ pv_rv kd q.2.1 r ∧ pv_R q.2.2 σ M ∧ n0 ≤ σ.1 ∧ pv_B V0 q.2.2
abbrev pv_rm (fr lo : Nat) (V0 : pvM) : Room := { frames := fr, cells := pv_LC - pv_c V0, slots := pv_LS - pv_s V0, locals := lo }
abbrev pv_Q (below : List Frame) (D : va_G) (cy : Nat → ClassId) (n0 : Nat) (ad0 : Nat → Nat) (kd : Nat) (V0 : pvM) (q : pvO) (A : Nat → Prop) (args : Array Value) (s : State) : State → Prop := MQ below (pz_Q D cy n0 ad0 (pv_post kd V0 q n0) A) args s (pv_c q.2.2 - pv_c V0) (pv_s q.2.2 - pv_s V0) A
def pv_W (p : Program) (l : Launch) (e : Env) (fr lo : Nat) (s : State) (m : MethodId) (args : Array Value) (below : List Frame) (meth : Method) (c : Code) (nL : Nat) (D : va_G) (cy : Nat → ClassId) (A : Nat → Prop) (n0 : Nat) (ad0 : Nat → Nat) (Q : State → Prop) (V0 : pvM)
    (σ : pzS) (V : pvM) (pc : Nat) (loc : List (Nat × Value)) (st : List Value) : Prop :=
  ∀ M : pzM, pv_R V σ M → n0 ≤ σ.1 → pv_B V0 V → pz_W p l e (pv_rm fr lo V0) s m args below meth c nL D cy A n0 ad0 Q σ M (pv_c V - pv_c V0) (pv_s V - pv_s V0) pc loc st
def pv_Met (l : Launch) (y : MethodName) (cc : ByteArray) (maxL : Nat) (ret : Option FieldType) (fr lo : Nat) (D : va_G) (cy : Nat → ClassId) (V : pvM) (av : List Value) (kd : Nat) (q : pvO) : Prop :=
  ∀ (σ : pzS) (M : pzM), pv_R V σ M → pv_c V ≤ pv_LC → pv_s V ≤ pv_LS → ∀ (ad : Nat → Nat) (sz : Nat), Met l y (Cond.code y cc maxL ret :: lw_good) (pv_rm fr lo V) (va_Pc (av.map (pz_t ad)) (pz_Pre D cy ad sz σ M)) (pz_Q D cy σ.1 ad (pv_post kd V q σ.1) (va_A (pz_w cy ad σ M) sz)) (pv_c q.2.2 - pv_c V) (pv_s q.2.2 - pv_s V) (va_A (pz_w cy ad σ M) sz)
theorem pv_ofW {l : Launch} {y : MethodName} {cc : ByteArray} {maxL : Nat} {ret : Option FieldType} {fr lo : Nat} {D : va_G} {cy : Nat → ClassId} {V : pvM} {av : List Value} {kd : Nat} {q : pvO} (hy : plainName y.cls = true) (hlen : (lg_sl av).length ≤ maxL)
    (body : ∀ (p : Program) (e : Env) (s : State) (m : MethodId) (args : Array Value) (below : List Frame) (meth : Method) (c : Code) (ad : Nat → Nat) (A : Nat → Prop) (n0 : Nat) (σ : pzS), pz_C p s m args meth c cc maxL y.cls D cy A → meth.sig.returnType = ret →
      pv_W p l e fr lo s m args below meth c maxL D cy A n0 ad (pv_Q below D cy n0 ad kd V q A args s) V σ V 0 (lv_args 0 av) []) : pv_Met l y cc maxL ret fr lo D cy V av kd q := by
  intro σ M hR hcL hsL ad sz
  refine Met.ofW (cc := cc) (maxL := maxL) (ret := ret) hy rfl ?_
  intro p e s m args below meth c s₁ B hml hv
  obtain ⟨rfl, hsz, hP, hK, hD0, hN⟩ := hv
  have hts := atoms_spec (ws := Cond.code y cc maxL ret :: lw_good) B.pre
  have hown : s.vm.findClass y.cls = some m.cls := findClass_of_methodNamed B.named
  subst hsz
  have hD := hD0.self (sz := s.heap.size)
  have hl := lv_entry (av.map (pz_t ad)) (n := maxL) (by rw [pz_sl_len]; exact hlen)
  rw [lg_entry_eq]
  rw [pz_args_map] at hl
  have k9 := body p e s m (av.map (pz_t ad)).toArray below meth c ad (va_A (pz_w cy ad σ M) s.heap.size) σ.1 σ ⟨⟨B.exec, B.bytes, hml, hown, fun w hw => hts w (List.mem_cons_of_mem _ hw)⟩, hK, fun q h => Or.inr h, B.notSynchronized, hN⟩ B.returns M hR (Nat.le_refl _) ⟨Nat.le_refl _, hcL, Nat.le_refl _, hsL⟩
  rw [Nat.sub_self, Nat.sub_self] at k9
  exact k9 ad s.heap [] _ (fun _ _ => rfl) hP hD va_S.rf hl
theorem pv_cu {V : pvM} {c k : Nat} {x : Int} (h : Nat.blt c 84 = true) : pv_c (pz_u V c k x) = pv_c V ∧ pv_s (pz_u V c k x) = pv_s V := by
  have h9 := Nat.blt_eq.mp h
  unfold pv_c pv_s
  rw [pv_u_ne (Or.inl (by omega)), pv_u_ne (Or.inl (by omega))]
  exact ⟨rfl, rfl⟩
theorem pv_Bu {V0 V : pvM} {c k : Nat} {x : Int} (h : Nat.blt c 84 = true) (hB : pv_B V0 V) : pv_B V0 (pz_u V c k x) := by
  obtain ⟨e1, e2⟩ := pv_cu (V := V) (k := k) (x := x) h
  unfold pv_B at hB ⊢
  rw [e1, e2]
  exact hB
section PVR
variable {p : Program} {l : Launch} {e : Env} {fr lo : Nat} {s : State} {m : MethodId} {args : Array Value} {below : List Frame} {meth : Method} {c : Code} {cc : ByteArray} {nL : Nat} {own : String} {D : va_G} {cy : Nat → ClassId} {A : Nat → Prop} {n0 : Nat} {ad0 : Nat → Nat} {Q : State → Prop} {V0 V : pvM} {σ : pzS} {pc : Nat} {loc loc' : List (Nat × Value)} {st : List Value} {q : pvO} {kd : Nat}
theorem pv_iconst (C : pz_C p s m args meth c cc nL own D cy A) {n : Int} {k : Int → Option pvO} (hp : lI n k = some q) (hd : decode cc pc = .ok (.iconst n, 1)) (hv : (Int32.ofInt n).toInt = n) (kk : ∀ x : Int32, k x.toInt = some q → pv_W p l e fr lo s m args below meth c nL D cy A n0 ad0 Q V0 σ V (pc + 1) loc (.int x :: st)) : pv_W p l e fr lo s m args below meth c nL D cy A n0 ad0 Q V0 σ V pc loc st :=
  fun M h1 h2 h3 => pz_iconst C hd rfl (kk _ (by rw [hv]; exact hp) M h1 h2 h3)
theorem pv_bipush (C : pz_C p s m args meth c cc nL own D cy A) {n : Int} {k : Int → Option pvO} (hp : lI n k = some q) (hd : decode cc pc = .ok (.bipush n, 2)) (hv : ((Int8.ofInt n).toInt32).toInt = n) (kk : ∀ x : Int32, k x.toInt = some q → pv_W p l e fr lo s m args below meth c nL D cy A n0 ad0 Q V0 σ V (pc + 2) loc (.int x :: st)) : pv_W p l e fr lo s m args below meth c nL D cy A n0 ad0 Q V0 σ V pc loc st :=
  fun M h1 h2 h3 => pz_bipush C hd rfl (kk _ (by rw [hv]; exact hp) M h1 h2 h3)
theorem pv_sipush (C : pz_C p s m args meth c cc nL own D cy A) {n : Int} {k : Int → Option pvO} (hp : lI n k = some q) (hd : decode cc pc = .ok (.sipush n, 3)) (hv : ((Int16.ofInt n).toInt32).toInt = n) (kk : ∀ x : Int32, k x.toInt = some q → pv_W p l e fr lo s m args below meth c nL D cy A n0 ad0 Q V0 σ V (pc + 3) loc (.int x :: st)) : pv_W p l e fr lo s m args below meth c nL D cy A n0 ad0 Q V0 σ V pc loc st :=
  fun M h1 h2 h3 => pz_sipush C hd rfl (kk _ (by rw [hv]; exact hp) M h1 h2 h3)
theorem pv_lconst (C : pz_C p s m args meth c cc nL own D cy A) {n : Fin 2} {z : Int} {k : Int → Option pvO} (hp : lI z k = some q) (hd : decode cc pc = .ok (.lconst n, 1)) (hv : (Int64.ofNat (n : Nat)).toInt = z) (kk : ∀ x : Int64, k x.toInt = some q → pv_W p l e fr lo s m args below meth c nL D cy A n0 ad0 Q V0 σ V (pc + 1) loc (.long x :: st)) : pv_W p l e fr lo s m args below meth c nL D cy A n0 ad0 Q V0 σ V pc loc st :=
  fun M h1 h2 h3 => pz_lconst C hd rfl (kk _ (by rw [hv]; exact hp) M h1 h2 h3)
theorem pv_ldc2 (C : pz_C p s m args meth c cc nL own D cy A) {index : Nat} {v : Int64} {z : Int} {k : Int → Option pvO} (hp : lI z k = some q) (hd : decode cc pc = .ok (.ldc2_w index, 3)) (hw : Cond.constantLong own index v ∈ lw_good) (hv : v.toInt = z) (kk : ∀ x : Int64, k x.toInt = some q → pv_W p l e fr lo s m args below meth c nL D cy A n0 ad0 Q V0 σ V (pc + 3) loc (.long x :: st)) : pv_W p l e fr lo s m args below meth c nL D cy A n0 ad0 Q V0 σ V pc loc st :=
  fun M h1 h2 h3 => pz_ldc2 C hw hd (kk _ (by rw [hv]; exact hp) M h1 h2 h3)
theorem pv_ldc (C : pz_C p s m args meth c cc nL own D cy A) {index : Nat} {v : Int32} {z : Int} {k : Int → Option pvO} (hp : lI z k = some q) (hd : decode cc pc = .ok (.ldc index, 2)) (hw : Cond.constant own index v ∈ lw_good) (hv : v.toInt = z) (kk : ∀ x : Int32, k x.toInt = some q → pv_W p l e fr lo s m args below meth c nL D cy A n0 ad0 Q V0 σ V (pc + 2) loc (.int x :: st)) : pv_W p l e fr lo s m args below meth c nL D cy A n0 ad0 Q V0 σ V pc loc st :=
  fun M h1 h2 h3 => pz_ldc C hw hd (kk _ (by rw [hv]; exact hp) M h1 h2 h3)
theorem pv_iload_n (C : pz_C p s m args meth c cc nL own D cy A) {j : Fin 4} {x : Int32} (i : Nat) (hd : decode cc pc = .ok (.iload_n j, 1)) (hq : loc[i]? = some ((j : Nat), .int x)) (kk : pv_W p l e fr lo s m args below meth c nL D cy A n0 ad0 Q V0 σ V (pc + 1) loc (.int x :: st)) : pv_W p l e fr lo s m args below meth c nL D cy A n0 ad0 Q V0 σ V pc loc st :=
  fun M h1 h2 h3 => pz_iload_n C i hd hq (kk M h1 h2 h3)
theorem pv_iload (C : pz_C p s m args meth c cc nL own D cy A) {j : Nat} {x : Int32} (i : Nat) (hd : decode cc pc = .ok (.iload j, 2)) (hq : loc[i]? = some (j, .int x)) (kk : pv_W p l e fr lo s m args below meth c nL D cy A n0 ad0 Q V0 σ V (pc + 2) loc (.int x :: st)) : pv_W p l e fr lo s m args below meth c nL D cy A n0 ad0 Q V0 σ V pc loc st :=
  fun M h1 h2 h3 => pz_iload C i hd hq (kk M h1 h2 h3)
theorem pv_istore_n (C : pz_C p s m args meth c cc nL own D cy A) {j : Fin 4} {x : Int32} (hd : decode cc pc = .ok (.istore_n j, 1)) (hn : (j : Nat) < nL) (hq : ((j : Nat), Value.int x) :: pz_f1 j loc = loc') (kk : pv_W p l e fr lo s m args below meth c nL D cy A n0 ad0 Q V0 σ V (pc + 1) loc' st) : pv_W p l e fr lo s m args below meth c nL D cy A n0 ad0 Q V0 σ V pc loc (.int x :: st) :=
  fun M h1 h2 h3 => pz_istore_n C hd hn hq (kk M h1 h2 h3)
theorem pv_istore (C : pz_C p s m args meth c cc nL own D cy A) {j : Nat} {x : Int32} (hd : decode cc pc = .ok (.istore j, 2)) (hn : j < nL) (hq : (j, Value.int x) :: pz_f1 j loc = loc') (kk : pv_W p l e fr lo s m args below meth c nL D cy A n0 ad0 Q V0 σ V (pc + 2) loc' st) : pv_W p l e fr lo s m args below meth c nL D cy A n0 ad0 Q V0 σ V pc loc (.int x :: st) :=
  fun M h1 h2 h3 => pz_istore C hd hn hq (kk M h1 h2 h3)
theorem pv_lload_n (C : pz_C p s m args meth c cc nL own D cy A) {j : Fin 4} {x : Int64} (i : Nat) (hd : decode cc pc = .ok (.lload_n j, 1)) (hq : loc[i]? = some ((j : Nat), .long x)) (kk : pv_W p l e fr lo s m args below meth c nL D cy A n0 ad0 Q V0 σ V (pc + 1) loc (.long x :: st)) : pv_W p l e fr lo s m args below meth c nL D cy A n0 ad0 Q V0 σ V pc loc st :=
  fun M h1 h2 h3 => pz_lload_n C i hd hq (kk M h1 h2 h3)
theorem pv_lload (C : pz_C p s m args meth c cc nL own D cy A) {j : Nat} {x : Int64} (i : Nat) (hd : decode cc pc = .ok (.lload j, 2)) (hq : loc[i]? = some (j, .long x)) (kk : pv_W p l e fr lo s m args below meth c nL D cy A n0 ad0 Q V0 σ V (pc + 2) loc (.long x :: st)) : pv_W p l e fr lo s m args below meth c nL D cy A n0 ad0 Q V0 σ V pc loc st :=
  fun M h1 h2 h3 => pz_lload C i hd hq (kk M h1 h2 h3)
theorem pv_lstore_n (C : pz_C p s m args meth c cc nL own D cy A) {j : Fin 4} {x : Int64} (hd : decode cc pc = .ok (.lstore_n j, 1)) (hn : (j : Nat) + 1 < nL) (hq : ((j : Nat), Value.long x) :: pz_f2 j loc = loc') (kk : pv_W p l e fr lo s m args below meth c nL D cy A n0 ad0 Q V0 σ V (pc + 1) loc' st) : pv_W p l e fr lo s m args below meth c nL D cy A n0 ad0 Q V0 σ V pc loc (.long x :: st) :=
  fun M h1 h2 h3 => pz_lstore_n C hd hn hq (kk M h1 h2 h3)
theorem pv_lstore (C : pz_C p s m args meth c cc nL own D cy A) {j : Nat} {x : Int64} (hd : decode cc pc = .ok (.lstore j, 2)) (hn : j + 1 < nL) (hq : (j, Value.long x) :: pz_f2 j loc = loc') (kk : pv_W p l e fr lo s m args below meth c nL D cy A n0 ad0 Q V0 σ V (pc + 2) loc' st) : pv_W p l e fr lo s m args below meth c nL D cy A n0 ad0 Q V0 σ V pc loc (.long x :: st) :=
  fun M h1 h2 h3 => pz_lstore C hd hn hq (kk M h1 h2 h3)
theorem pv_aload_n (C : pz_C p s m args meth c cc nL own D cy A) {j : Fin 4} {x : Nat} (i : Nat) (hd : decode cc pc = .ok (.aload_n j, 1)) (hq : loc[i]? = some ((j : Nat), .ref x)) (kk : pv_W p l e fr lo s m args below meth c nL D cy A n0 ad0 Q V0 σ V (pc + 1) loc (.ref x :: st)) : pv_W p l e fr lo s m args below meth c nL D cy A n0 ad0 Q V0 σ V pc loc st :=
  fun M h1 h2 h3 => pz_aload_n C i hd hq (kk M h1 h2 h3)
theorem pv_aload (C : pz_C p s m args meth c cc nL own D cy A) {j : Nat} {x : Nat} (i : Nat) (hd : decode cc pc = .ok (.aload j, 2)) (hq : loc[i]? = some (j, .ref x)) (kk : pv_W p l e fr lo s m args below meth c nL D cy A n0 ad0 Q V0 σ V (pc + 2) loc (.ref x :: st)) : pv_W p l e fr lo s m args below meth c nL D cy A n0 ad0 Q V0 σ V pc loc st :=
  fun M h1 h2 h3 => pz_aload C i hd hq (kk M h1 h2 h3)
theorem pv_astore_n (C : pz_C p s m args meth c cc nL own D cy A) {j : Fin 4} {x : Nat} (hd : decode cc pc = .ok (.astore_n j, 1)) (hn : (j : Nat) < nL) (hq : ((j : Nat), Value.ref x) :: pz_f1 j loc = loc') (kk : pv_W p l e fr lo s m args below meth c nL D cy A n0 ad0 Q V0 σ V (pc + 1) loc' st) : pv_W p l e fr lo s m args below meth c nL D cy A n0 ad0 Q V0 σ V pc loc (.ref x :: st) :=
  fun M h1 h2 h3 => pz_astore_n C hd hn hq (kk M h1 h2 h3)
theorem pv_astore (C : pz_C p s m args meth c cc nL own D cy A) {j : Nat} {x : Nat} (hd : decode cc pc = .ok (.astore j, 2)) (hn : j < nL) (hq : (j, Value.ref x) :: pz_f1 j loc = loc') (kk : pv_W p l e fr lo s m args below meth c nL D cy A n0 ad0 Q V0 σ V (pc + 2) loc' st) : pv_W p l e fr lo s m args below meth c nL D cy A n0 ad0 Q V0 σ V pc loc (.ref x :: st) :=
  fun M h1 h2 h3 => pz_astore C hd hn hq (kk M h1 h2 h3)
theorem pv_iinc (C : pz_C p s m args meth c cc nL own D cy A) {j : Nat} {n : Int} {x : Int32} {L : Int32 → List (Nat × Value)} (i : Nat) {k : Int → Option pvO} (hp : lI (pv_w (x.toInt + n)) k = some q) (hd : decode cc pc = .ok (.iinc j n, 3)) (hv : (Int32.ofInt n).toInt = n) (hk : loc[i]? = some (j, .int x)) (hn : j < nL) (hq : ∀ v : Int32, (j, Value.int v) :: pz_f1 j loc = L v) (kk : ∀ v : Int32, k v.toInt = some q → pv_W p l e fr lo s m args below meth c nL D cy A n0 ad0 Q V0 σ V (pc + 3) (L v) st) : pv_W p l e fr lo s m args below meth c nL D cy A n0 ad0 Q V0 σ V pc loc st :=
  fun M h1 h2 h3 => pz_iinc C i hd hk rfl hn (hq _) (kk _ (by rw [Int32.toInt_add, hv]; exact hp) M h1 h2 h3)
theorem pv_iadd (C : pz_C p s m args meth c cc nL own D cy A) {x y : Int32} {k : Int → Option pvO} (hp : lI (pv_w (x.toInt + y.toInt)) k = some q) (hd : decode cc pc = .ok (.iadd, 1))  (kk : ∀ z : Int32, k z.toInt = some q → pv_W p l e fr lo s m args below meth c nL D cy A n0 ad0 Q V0 σ V (pc + 1) loc (.int z :: st)) : pv_W p l e fr lo s m args below meth c nL D cy A n0 ad0 Q V0 σ V pc loc (.int y :: .int x :: st) :=
  fun M h1 h2 h3 => pz_iadd C hd (kk _ (by rw [Int32.toInt_add]; exact hp) M h1 h2 h3)
theorem pv_isub (C : pz_C p s m args meth c cc nL own D cy A) {x y : Int32} {k : Int → Option pvO} (hp : lI (pv_w (x.toInt - y.toInt)) k = some q) (hd : decode cc pc = .ok (.isub, 1))  (kk : ∀ z : Int32, k z.toInt = some q → pv_W p l e fr lo s m args below meth c nL D cy A n0 ad0 Q V0 σ V (pc + 1) loc (.int z :: st)) : pv_W p l e fr lo s m args below meth c nL D cy A n0 ad0 Q V0 σ V pc loc (.int y :: .int x :: st) :=
  fun M h1 h2 h3 => pz_isub C hd (kk _ (by rw [Int32.toInt_sub]; exact hp) M h1 h2 h3)
theorem pv_imul (C : pz_C p s m args meth c cc nL own D cy A) {x y : Int32} {k : Int → Option pvO} (hp : lI (pv_w (x.toInt * y.toInt)) k = some q) (hd : decode cc pc = .ok (.imul, 1))  (kk : ∀ z : Int32, k z.toInt = some q → pv_W p l e fr lo s m args below meth c nL D cy A n0 ad0 Q V0 σ V (pc + 1) loc (.int z :: st)) : pv_W p l e fr lo s m args below meth c nL D cy A n0 ad0 Q V0 σ V pc loc (.int y :: .int x :: st) :=
  fun M h1 h2 h3 => pz_imul C hd (kk _ (by rw [Int32.toInt_mul]; exact hp) M h1 h2 h3)
theorem pv_ladd (C : pz_C p s m args meth c cc nL own D cy A) {x y : Int64} {k : Int → Option pvO} (hp : lI (pv_wl (x.toInt + y.toInt)) k = some q) (hd : decode cc pc = .ok (.ladd, 1))  (kk : ∀ z : Int64, k z.toInt = some q → pv_W p l e fr lo s m args below meth c nL D cy A n0 ad0 Q V0 σ V (pc + 1) loc (.long z :: st)) : pv_W p l e fr lo s m args below meth c nL D cy A n0 ad0 Q V0 σ V pc loc (.long y :: .long x :: st) :=
  fun M h1 h2 h3 => pz_ladd C hd (kk _ (by rw [Int64.toInt_add]; exact hp) M h1 h2 h3)
theorem pv_lsub (C : pz_C p s m args meth c cc nL own D cy A) {x y : Int64} {k : Int → Option pvO} (hp : lI (pv_wl (x.toInt - y.toInt)) k = some q) (hd : decode cc pc = .ok (.lsub, 1))  (kk : ∀ z : Int64, k z.toInt = some q → pv_W p l e fr lo s m args below meth c nL D cy A n0 ad0 Q V0 σ V (pc + 1) loc (.long z :: st)) : pv_W p l e fr lo s m args below meth c nL D cy A n0 ad0 Q V0 σ V pc loc (.long y :: .long x :: st) :=
  fun M h1 h2 h3 => pz_lsub C hd (kk _ (by rw [Int64.toInt_sub]; exact hp) M h1 h2 h3)
theorem pv_lmul (C : pz_C p s m args meth c cc nL own D cy A) {x y : Int64} {k : Int → Option pvO} (hp : lI (pv_wl (x.toInt * y.toInt)) k = some q) (hd : decode cc pc = .ok (.lmul, 1))  (kk : ∀ z : Int64, k z.toInt = some q → pv_W p l e fr lo s m args below meth c nL D cy A n0 ad0 Q V0 σ V (pc + 1) loc (.long z :: st)) : pv_W p l e fr lo s m args below meth c nL D cy A n0 ad0 Q V0 σ V pc loc (.long y :: .long x :: st) :=
  fun M h1 h2 h3 => pz_lmul C hd (kk _ (by rw [Int64.toInt_mul]; exact hp) M h1 h2 h3)
theorem pv_land (C : pz_C p s m args meth c cc nL own D cy A) {x y : Int64} {k : Int → Option pvO} (hp : lI (pv_andl x.toInt y.toInt) k = some q) (hd : decode cc pc = .ok (.land, 1))  (kk : ∀ z : Int64, k z.toInt = some q → pv_W p l e fr lo s m args below meth c nL D cy A n0 ad0 Q V0 σ V (pc + 1) loc (.long z :: st)) : pv_W p l e fr lo s m args below meth c nL D cy A n0 ad0 Q V0 σ V pc loc (.long y :: .long x :: st) :=
  fun M h1 h2 h3 => pz_land C hd (kk _ (by unfold pv_andl lI at hp; rw [Int64.ofInt_toInt, Int64.ofInt_toInt] at hp; exact hp) M h1 h2 h3)
theorem pv_lor (C : pz_C p s m args meth c cc nL own D cy A) {x y : Int64} {k : Int → Option pvO} (hp : lI (pv_orl x.toInt y.toInt) k = some q) (hd : decode cc pc = .ok (.lor, 1))  (kk : ∀ z : Int64, k z.toInt = some q → pv_W p l e fr lo s m args below meth c nL D cy A n0 ad0 Q V0 σ V (pc + 1) loc (.long z :: st)) : pv_W p l e fr lo s m args below meth c nL D cy A n0 ad0 Q V0 σ V pc loc (.long y :: .long x :: st) :=
  fun M h1 h2 h3 => pz_lor C hd (kk _ (by unfold pv_orl lI at hp; rw [Int64.ofInt_toInt, Int64.ofInt_toInt] at hp; exact hp) M h1 h2 h3)
theorem pv_lshr (C : pz_C p s m args meth c cc nL own D cy A) {x : Int64} {y : Int32} {k : Int → Option pvO} (hp : lI (pv_shr x.toInt y.toInt) k = some q) (hd : decode cc pc = .ok (.lshr, 1))  (kk : ∀ z : Int64, k z.toInt = some q → pv_W p l e fr lo s m args below meth c nL D cy A n0 ad0 Q V0 σ V (pc + 1) loc (.long z :: st)) : pv_W p l e fr lo s m args below meth c nL D cy A n0 ad0 Q V0 σ V pc loc (.int y :: .long x :: st) :=
  fun M h1 h2 h3 => pz_lshr C hd (kk _ (by unfold pv_shr lI at hp; rw [Int64.ofInt_toInt, Int32.ofInt_toInt] at hp; exact hp) M h1 h2 h3)
theorem pv_lshl (C : pz_C p s m args meth c cc nL own D cy A) {x : Int64} {y : Int32} {k : Int → Option pvO} (hp : lI (pv_shl x.toInt y.toInt) k = some q) (hd : decode cc pc = .ok (.lshl, 1))  (kk : ∀ z : Int64, k z.toInt = some q → pv_W p l e fr lo s m args below meth c nL D cy A n0 ad0 Q V0 σ V (pc + 1) loc (.long z :: st)) : pv_W p l e fr lo s m args below meth c nL D cy A n0 ad0 Q V0 σ V pc loc (.int y :: .long x :: st) :=
  fun M h1 h2 h3 => pz_lshl C hd (kk _ (by unfold pv_shl lI at hp; rw [Int64.ofInt_toInt, Int32.ofInt_toInt] at hp; exact hp) M h1 h2 h3)
theorem pv_ldiv (C : pz_C p s m args meth c cc nL own D cy A) {x y : Int64} {k : Int → Option pvO} (hp : nZ y.toInt (lI (pv_div x.toInt y.toInt) k) = some q) (hd : decode cc pc = .ok (.ldiv, 1)) (kk : ∀ z : Int64, k z.toInt = some q → pv_W p l e fr lo s m args below meth c nL D cy A n0 ad0 Q V0 σ V (pc + 1) loc (.long z :: st)) : pv_W p l e fr lo s m args below meth c nL D cy A n0 ad0 Q V0 σ V pc loc (.long y :: .long x :: st) := by
  intro M h1 h2 h3
  unfold nZ at hp
  by_cases h0 : y.toInt = 0
  · rw [if_pos h0] at hp; cases hp
  · rw [if_neg h0] at hp
    unfold pv_div lI at hp
    rw [Int64.ofInt_toInt, Int64.ofInt_toInt] at hp
    exact fun ad H locs ls ha hP hD hS hl => lv_ldiv C.1.1 C.1.2.1 hd (fun h => h0 (by rw [h]; rfl)) (kk _ hp M h1 h2 h3 ad H locs ls ha hP hD hS hl)
theorem pv_lrem (C : pz_C p s m args meth c cc nL own D cy A) {x y : Int64} {k : Int → Option pvO} (hp : nZ y.toInt (lI (pv_rem x.toInt y.toInt) k) = some q) (hd : decode cc pc = .ok (.lrem, 1)) (kk : ∀ z : Int64, k z.toInt = some q → pv_W p l e fr lo s m args below meth c nL D cy A n0 ad0 Q V0 σ V (pc + 1) loc (.long z :: st)) : pv_W p l e fr lo s m args below meth c nL D cy A n0 ad0 Q V0 σ V pc loc (.long y :: .long x :: st) := by
  intro M h1 h2 h3
  unfold nZ at hp
  by_cases h0 : y.toInt = 0
  · rw [if_pos h0] at hp; cases hp
  · rw [if_neg h0] at hp
    unfold pv_rem lI at hp
    rw [Int64.ofInt_toInt, Int64.ofInt_toInt] at hp
    exact fun ad H locs ls ha hP hD hS hl => lv_lrem C.1.1 C.1.2.1 hd (fun h => h0 (by rw [h]; rfl)) (kk _ hp M h1 h2 h3 ad H locs ls ha hP hD hS hl)
theorem pv_lneg (C : pz_C p s m args meth c cc nL own D cy A) {x : Int64} {k : Int → Option pvO} (hp : lI (pv_neg x.toInt) k = some q) (hd : decode cc pc = .ok (.lneg, 1)) (kk : ∀ z : Int64, k z.toInt = some q → pv_W p l e fr lo s m args below meth c nL D cy A n0 ad0 Q V0 σ V (pc + 1) loc (.long z :: st)) : pv_W p l e fr lo s m args below meth c nL D cy A n0 ad0 Q V0 σ V pc loc (.long x :: st) := by
  intro M h1 h2 h3
  unfold pv_neg lI at hp
  rw [Int64.ofInt_toInt] at hp
  exact fun ad H locs ls ha hP hD hS hl => lv_lneg C.1.1 C.1.2.1 hd (kk _ hp M h1 h2 h3 ad H locs ls ha hP hD hS hl)
theorem pv_lcmp (C : pz_C p s m args meth c cc nL own D cy A) {x y : Int64} {k : Int → Option pvO} (hp : lI (pv_cmp x.toInt y.toInt) k = some q) (hd : decode cc pc = .ok (.lcmp, 1))  (kk : ∀ z : Int32, k z.toInt = some q → pv_W p l e fr lo s m args below meth c nL D cy A n0 ad0 Q V0 σ V (pc + 1) loc (.int z :: st)) : pv_W p l e fr lo s m args below meth c nL D cy A n0 ad0 Q V0 σ V pc loc (.long y :: .long x :: st) :=
  fun M h1 h2 h3 => pz_lcmp C hd (kk _ (by rw [pv_cmp_e]; exact hp) M h1 h2 h3)
theorem pv_i2l (C : pz_C p s m args meth c cc nL own D cy A) {x : Int32} {k : Int → Option pvO} (hp : lI x.toInt k = some q) (hd : decode cc pc = .ok (.i2l, 1))  (kk : ∀ z : Int64, k z.toInt = some q → pv_W p l e fr lo s m args below meth c nL D cy A n0 ad0 Q V0 σ V (pc + 1) loc (.long z :: st)) : pv_W p l e fr lo s m args below meth c nL D cy A n0 ad0 Q V0 σ V pc loc (.int x :: st) :=
  fun M h1 h2 h3 => pz_i2l C hd (kk _ (by rw [Int32.toInt_toInt64]; exact hp) M h1 h2 h3)
theorem pv_l2i (C : pz_C p s m args meth c cc nL own D cy A) {x : Int64} {k : Int → Option pvO} (hp : lI (pv_w x.toInt) k = some q) (hd : decode cc pc = .ok (.l2i, 1))  (kk : ∀ z : Int32, k z.toInt = some q → pv_W p l e fr lo s m args below meth c nL D cy A n0 ad0 Q V0 σ V (pc + 1) loc (.int z :: st)) : pv_W p l e fr lo s m args below meth c nL D cy A n0 ad0 Q V0 σ V pc loc (.long x :: st) :=
  fun M h1 h2 h3 => pz_l2i C hd (kk _ (by rw [Int64.toInt_toInt32]; exact hp) M h1 h2 h3)
theorem pv_i2b (C : pz_C p s m args meth c cc nL own D cy A) {x : Int32} {k : Int → Option pvO} (hp : lI (pv_wb x.toInt) k = some q) (hd : decode cc pc = .ok (.i2b, 1))  (kk : ∀ z : Int32, k z.toInt = some q → pv_W p l e fr lo s m args below meth c nL D cy A n0 ad0 Q V0 σ V (pc + 1) loc (.int z :: st)) : pv_W p l e fr lo s m args below meth c nL D cy A n0 ad0 Q V0 σ V pc loc (.int x :: st) :=
  fun M h1 h2 h3 => pz_i2b C hd (kk _ (by rw [Int8.toInt_toInt32, Int32.toInt_toInt8]; exact hp) M h1 h2 h3)
theorem pv_dup (C : pz_C p s m args meth c cc nL own D cy A) {va : Value} (hd : decode cc pc = .ok (.dup, 1)) (hv : va.category = 1) (kk : pv_W p l e fr lo s m args below meth c nL D cy A n0 ad0 Q V0 σ V (pc + 1) loc (va :: va :: st)) : pv_W p l e fr lo s m args below meth c nL D cy A n0 ad0 Q V0 σ V pc loc (va :: st) :=
  fun M h1 h2 h3 => pz_dup C hd hv (kk M h1 h2 h3)
theorem pv_pop (C : pz_C p s m args meth c cc nL own D cy A) {va : Value} (hd : decode cc pc = .ok (.pop, 1)) (hv : va.category = 1) (kk : pv_W p l e fr lo s m args below meth c nL D cy A n0 ad0 Q V0 σ V (pc + 1) loc st) : pv_W p l e fr lo s m args below meth c nL D cy A n0 ad0 Q V0 σ V pc loc (va :: st) :=
  fun M h1 h2 h3 => pz_pop C hd hv (kk M h1 h2 h3)
theorem pv_dup2 (C : pz_C p s m args meth c cc nL own D cy A) {va vb : Value} (hd : decode cc pc = .ok (.dup2, 1)) (hv : va.category = 1) (hv2 : vb.category = 1) (kk : pv_W p l e fr lo s m args below meth c nL D cy A n0 ad0 Q V0 σ V (pc + 1) loc (va :: vb :: va :: vb :: st)) : pv_W p l e fr lo s m args below meth c nL D cy A n0 ad0 Q V0 σ V pc loc (va :: vb :: st) :=
  fun M h1 h2 h3 => pz_dup2 C hd hv hv2 (kk M h1 h2 h3)
theorem pv_pop2 (C : pz_C p s m args meth c cc nL own D cy A) {x : Int64} (hd : decode cc pc = .ok (.pop2, 1)) (kk : pv_W p l e fr lo s m args below meth c nL D cy A n0 ad0 Q V0 σ V (pc + 1) loc st) : pv_W p l e fr lo s m args below meth c nL D cy A n0 ad0 Q V0 σ V pc loc (.long x :: st) := by
  intro M h1 h2 h3
  exact fun ad H locs ls ha hP hD hS hl => lv_pop2_2 C.1.1 C.1.2.1 hd rfl (kk M h1 h2 h3 ad H locs ls ha hP hD hS hl)
theorem pv_icmp_eq (C : pz_C p s m args meth c cc nL own D cy A) {x y : Int32} {off : Int} {tgt : Nat} {a b : Option pvO} (hp : (if x.toInt = y.toInt then a else b) = some q) (hd : decode cc pc = .ok (.if_icmp .eq off, 3)) (ht : (pc : Int) + off = (tgt : Int)) (kt : a = some q → pv_W p l e fr lo s m args below meth c nL D cy A n0 ad0 Q V0 σ V tgt loc st) (kf : b = some q → pv_W p l e fr lo s m args below meth c nL D cy A n0 ad0 Q V0 σ V (pc + 3) loc st) : pv_W p l e fr lo s m args below meth c nL D cy A n0 ad0 Q V0 σ V pc loc (.int y :: .int x :: st) := by
  intro M h1 h2 h3
  refine pz_icmp_eq (tgt := tgt) C hd ht (fun h => ?_) (fun h => ?_)
  · rw [if_pos (Int32.toInt_inj.mpr h)] at hp; exact kt hp M h1 h2 h3
  · rw [if_neg (fun g => h (Int32.toInt_inj.mp g))] at hp; exact kf hp M h1 h2 h3
theorem pv_if_eq (C : pz_C p s m args meth c cc nL own D cy A) {x : Int32} {off : Int} {tgt : Nat} {a b : Option pvO} (hp : (if x.toInt = 0 then a else b) = some q) (hd : decode cc pc = .ok (.ifCond .eq off, 3)) (ht : (pc : Int) + off = (tgt : Int)) (kt : a = some q → pv_W p l e fr lo s m args below meth c nL D cy A n0 ad0 Q V0 σ V tgt loc st) (kf : b = some q → pv_W p l e fr lo s m args below meth c nL D cy A n0 ad0 Q V0 σ V (pc + 3) loc st) : pv_W p l e fr lo s m args below meth c nL D cy A n0 ad0 Q V0 σ V pc loc (.int x :: st) := by
  intro M h1 h2 h3
  have e0 : (0 : Int32).toInt = 0 := rfl
  refine pz_if_eq (tgt := tgt) C hd ht (fun h => ?_) (fun h => ?_)
  · rw [if_pos ((Int32.toInt_inj.mpr h).trans e0)] at hp; exact kt hp M h1 h2 h3
  · rw [if_neg (fun g => h (Int32.toInt_inj.mp (g.trans e0.symm)))] at hp; exact kf hp M h1 h2 h3
theorem pv_icmp_ne (C : pz_C p s m args meth c cc nL own D cy A) {x y : Int32} {off : Int} {tgt : Nat} {a b : Option pvO} (hp : (if x.toInt ≠ y.toInt then a else b) = some q) (hd : decode cc pc = .ok (.if_icmp .ne off, 3)) (ht : (pc : Int) + off = (tgt : Int)) (kt : a = some q → pv_W p l e fr lo s m args below meth c nL D cy A n0 ad0 Q V0 σ V tgt loc st) (kf : b = some q → pv_W p l e fr lo s m args below meth c nL D cy A n0 ad0 Q V0 σ V (pc + 3) loc st) : pv_W p l e fr lo s m args below meth c nL D cy A n0 ad0 Q V0 σ V pc loc (.int y :: .int x :: st) := by
  intro M h1 h2 h3
  refine pz_icmp_ne (tgt := tgt) C hd ht (fun h => ?_) (fun h => ?_)
  · rw [if_pos (fun g => h (Int32.toInt_inj.mp g))] at hp; exact kt hp M h1 h2 h3
  · rw [if_neg (fun g => g (Int32.toInt_inj.mpr h))] at hp; exact kf hp M h1 h2 h3
theorem pv_if_ne (C : pz_C p s m args meth c cc nL own D cy A) {x : Int32} {off : Int} {tgt : Nat} {a b : Option pvO} (hp : (if x.toInt ≠ 0 then a else b) = some q) (hd : decode cc pc = .ok (.ifCond .ne off, 3)) (ht : (pc : Int) + off = (tgt : Int)) (kt : a = some q → pv_W p l e fr lo s m args below meth c nL D cy A n0 ad0 Q V0 σ V tgt loc st) (kf : b = some q → pv_W p l e fr lo s m args below meth c nL D cy A n0 ad0 Q V0 σ V (pc + 3) loc st) : pv_W p l e fr lo s m args below meth c nL D cy A n0 ad0 Q V0 σ V pc loc (.int x :: st) := by
  intro M h1 h2 h3
  have e0 : (0 : Int32).toInt = 0 := rfl
  refine pz_if_ne (tgt := tgt) C hd ht (fun h => ?_) (fun h => ?_)
  · rw [if_pos (fun g => h (Int32.toInt_inj.mp (g.trans e0.symm)))] at hp; exact kt hp M h1 h2 h3
  · rw [if_neg (fun g => g ((Int32.toInt_inj.mpr h).trans e0))] at hp; exact kf hp M h1 h2 h3
theorem pv_icmp_lt (C : pz_C p s m args meth c cc nL own D cy A) {x y : Int32} {off : Int} {tgt : Nat} {a b : Option pvO} (hp : (if x.toInt < y.toInt then a else b) = some q) (hd : decode cc pc = .ok (.if_icmp .lt off, 3)) (ht : (pc : Int) + off = (tgt : Int)) (kt : a = some q → pv_W p l e fr lo s m args below meth c nL D cy A n0 ad0 Q V0 σ V tgt loc st) (kf : b = some q → pv_W p l e fr lo s m args below meth c nL D cy A n0 ad0 Q V0 σ V (pc + 3) loc st) : pv_W p l e fr lo s m args below meth c nL D cy A n0 ad0 Q V0 σ V pc loc (.int y :: .int x :: st) := by
  intro M h1 h2 h3
  refine pz_icmp_lt (tgt := tgt) C hd ht (fun h => ?_) (fun h => ?_)
  · rw [if_pos (Int32.lt_iff_toInt_lt.mp h)] at hp; exact kt hp M h1 h2 h3
  · rw [if_neg (fun g => h (Int32.lt_iff_toInt_lt.mpr g))] at hp; exact kf hp M h1 h2 h3
theorem pv_if_lt (C : pz_C p s m args meth c cc nL own D cy A) {x : Int32} {off : Int} {tgt : Nat} {a b : Option pvO} (hp : (if x.toInt < 0 then a else b) = some q) (hd : decode cc pc = .ok (.ifCond .lt off, 3)) (ht : (pc : Int) + off = (tgt : Int)) (kt : a = some q → pv_W p l e fr lo s m args below meth c nL D cy A n0 ad0 Q V0 σ V tgt loc st) (kf : b = some q → pv_W p l e fr lo s m args below meth c nL D cy A n0 ad0 Q V0 σ V (pc + 3) loc st) : pv_W p l e fr lo s m args below meth c nL D cy A n0 ad0 Q V0 σ V pc loc (.int x :: st) := by
  intro M h1 h2 h3
  have e0 : (0 : Int32).toInt = 0 := rfl
  refine pz_if_lt (tgt := tgt) C hd ht (fun h => ?_) (fun h => ?_)
  · rw [if_pos (by have := Int32.lt_iff_toInt_lt.mp h; rw [e0] at this; exact this)] at hp; exact kt hp M h1 h2 h3
  · rw [if_neg (fun g => h (Int32.lt_iff_toInt_lt.mpr (by rw [e0]; exact g)))] at hp; exact kf hp M h1 h2 h3
theorem pv_icmp_ge (C : pz_C p s m args meth c cc nL own D cy A) {x y : Int32} {off : Int} {tgt : Nat} {a b : Option pvO} (hp : (if y.toInt ≤ x.toInt then a else b) = some q) (hd : decode cc pc = .ok (.if_icmp .ge off, 3)) (ht : (pc : Int) + off = (tgt : Int)) (kt : a = some q → pv_W p l e fr lo s m args below meth c nL D cy A n0 ad0 Q V0 σ V tgt loc st) (kf : b = some q → pv_W p l e fr lo s m args below meth c nL D cy A n0 ad0 Q V0 σ V (pc + 3) loc st) : pv_W p l e fr lo s m args below meth c nL D cy A n0 ad0 Q V0 σ V pc loc (.int y :: .int x :: st) := by
  intro M h1 h2 h3
  refine pz_icmp_ge (tgt := tgt) C hd ht (fun h => ?_) (fun h => ?_)
  · rw [if_pos (Int32.le_iff_toInt_le.mp h)] at hp; exact kt hp M h1 h2 h3
  · rw [if_neg (fun g => h (Int32.le_iff_toInt_le.mpr g))] at hp; exact kf hp M h1 h2 h3
theorem pv_if_ge (C : pz_C p s m args meth c cc nL own D cy A) {x : Int32} {off : Int} {tgt : Nat} {a b : Option pvO} (hp : (if 0 ≤ x.toInt then a else b) = some q) (hd : decode cc pc = .ok (.ifCond .ge off, 3)) (ht : (pc : Int) + off = (tgt : Int)) (kt : a = some q → pv_W p l e fr lo s m args below meth c nL D cy A n0 ad0 Q V0 σ V tgt loc st) (kf : b = some q → pv_W p l e fr lo s m args below meth c nL D cy A n0 ad0 Q V0 σ V (pc + 3) loc st) : pv_W p l e fr lo s m args below meth c nL D cy A n0 ad0 Q V0 σ V pc loc (.int x :: st) := by
  intro M h1 h2 h3
  have e0 : (0 : Int32).toInt = 0 := rfl
  refine pz_if_ge (tgt := tgt) C hd ht (fun h => ?_) (fun h => ?_)
  · rw [if_pos (by have := Int32.le_iff_toInt_le.mp h; rw [e0] at this; exact this)] at hp; exact kt hp M h1 h2 h3
  · rw [if_neg (fun g => h (Int32.le_iff_toInt_le.mpr (by rw [e0]; exact g)))] at hp; exact kf hp M h1 h2 h3
theorem pv_icmp_gt (C : pz_C p s m args meth c cc nL own D cy A) {x y : Int32} {off : Int} {tgt : Nat} {a b : Option pvO} (hp : (if y.toInt < x.toInt then a else b) = some q) (hd : decode cc pc = .ok (.if_icmp .gt off, 3)) (ht : (pc : Int) + off = (tgt : Int)) (kt : a = some q → pv_W p l e fr lo s m args below meth c nL D cy A n0 ad0 Q V0 σ V tgt loc st) (kf : b = some q → pv_W p l e fr lo s m args below meth c nL D cy A n0 ad0 Q V0 σ V (pc + 3) loc st) : pv_W p l e fr lo s m args below meth c nL D cy A n0 ad0 Q V0 σ V pc loc (.int y :: .int x :: st) := by
  intro M h1 h2 h3
  refine pz_icmp_gt (tgt := tgt) C hd ht (fun h => ?_) (fun h => ?_)
  · rw [if_pos (Int32.lt_iff_toInt_lt.mp h)] at hp; exact kt hp M h1 h2 h3
  · rw [if_neg (fun g => h (Int32.lt_iff_toInt_lt.mpr g))] at hp; exact kf hp M h1 h2 h3
theorem pv_if_gt (C : pz_C p s m args meth c cc nL own D cy A) {x : Int32} {off : Int} {tgt : Nat} {a b : Option pvO} (hp : (if 0 < x.toInt then a else b) = some q) (hd : decode cc pc = .ok (.ifCond .gt off, 3)) (ht : (pc : Int) + off = (tgt : Int)) (kt : a = some q → pv_W p l e fr lo s m args below meth c nL D cy A n0 ad0 Q V0 σ V tgt loc st) (kf : b = some q → pv_W p l e fr lo s m args below meth c nL D cy A n0 ad0 Q V0 σ V (pc + 3) loc st) : pv_W p l e fr lo s m args below meth c nL D cy A n0 ad0 Q V0 σ V pc loc (.int x :: st) := by
  intro M h1 h2 h3
  have e0 : (0 : Int32).toInt = 0 := rfl
  refine pz_if_gt (tgt := tgt) C hd ht (fun h => ?_) (fun h => ?_)
  · rw [if_pos (by have := Int32.lt_iff_toInt_lt.mp h; rw [e0] at this; exact this)] at hp; exact kt hp M h1 h2 h3
  · rw [if_neg (fun g => h (Int32.lt_iff_toInt_lt.mpr (by rw [e0]; exact g)))] at hp; exact kf hp M h1 h2 h3
theorem pv_icmp_le (C : pz_C p s m args meth c cc nL own D cy A) {x y : Int32} {off : Int} {tgt : Nat} {a b : Option pvO} (hp : (if x.toInt ≤ y.toInt then a else b) = some q) (hd : decode cc pc = .ok (.if_icmp .le off, 3)) (ht : (pc : Int) + off = (tgt : Int)) (kt : a = some q → pv_W p l e fr lo s m args below meth c nL D cy A n0 ad0 Q V0 σ V tgt loc st) (kf : b = some q → pv_W p l e fr lo s m args below meth c nL D cy A n0 ad0 Q V0 σ V (pc + 3) loc st) : pv_W p l e fr lo s m args below meth c nL D cy A n0 ad0 Q V0 σ V pc loc (.int y :: .int x :: st) := by
  intro M h1 h2 h3
  refine pz_icmp_le (tgt := tgt) C hd ht (fun h => ?_) (fun h => ?_)
  · rw [if_pos (Int32.le_iff_toInt_le.mp h)] at hp; exact kt hp M h1 h2 h3
  · rw [if_neg (fun g => h (Int32.le_iff_toInt_le.mpr g))] at hp; exact kf hp M h1 h2 h3
theorem pv_if_le (C : pz_C p s m args meth c cc nL own D cy A) {x : Int32} {off : Int} {tgt : Nat} {a b : Option pvO} (hp : (if x.toInt ≤ 0 then a else b) = some q) (hd : decode cc pc = .ok (.ifCond .le off, 3)) (ht : (pc : Int) + off = (tgt : Int)) (kt : a = some q → pv_W p l e fr lo s m args below meth c nL D cy A n0 ad0 Q V0 σ V tgt loc st) (kf : b = some q → pv_W p l e fr lo s m args below meth c nL D cy A n0 ad0 Q V0 σ V (pc + 3) loc st) : pv_W p l e fr lo s m args below meth c nL D cy A n0 ad0 Q V0 σ V pc loc (.int x :: st) := by
  intro M h1 h2 h3
  have e0 : (0 : Int32).toInt = 0 := rfl
  refine pz_if_le (tgt := tgt) C hd ht (fun h => ?_) (fun h => ?_)
  · rw [if_pos (by have := Int32.le_iff_toInt_le.mp h; rw [e0] at this; exact this)] at hp; exact kt hp M h1 h2 h3
  · rw [if_neg (fun g => h (Int32.le_iff_toInt_le.mpr (by rw [e0]; exact g)))] at hp; exact kf hp M h1 h2 h3
theorem pv_goto (C : pz_C p s m args meth c cc nL own D cy A) {off : Int} {tgt : Nat} (hd : decode cc pc = .ok (.goto off, 3)) (ht : (pc : Int) + off = (tgt : Int)) (kk : pv_W p l e fr lo s m args below meth c nL D cy A n0 ad0 Q V0 σ V tgt loc st) : pv_W p l e fr lo s m args below meth c nL D cy A n0 ad0 Q V0 σ V pc loc st :=
  fun M h1 h2 h3 => pz_goto C hd ht (kk M h1 h2 h3)
theorem pv_sub (ks : List Nat) (hk : lv_pick loc ks = loc') (kk : pv_W p l e fr lo s m args below meth c nL D cy A n0 ad0 Q V0 σ V pc loc' st) : pv_W p l e fr lo s m args below meth c nL D cy A n0 ad0 Q V0 σ V pc loc st :=
  fun M h1 h2 h3 => pz_locsub ks hk (kk M h1 h2 h3)
theorem pv_case {a b : Option pvO} {x : Int32} {v : Int} {G : Prop} (hp : (if x.toInt = v then a else b) = some q) (kt : x.toInt = v → a = some q → G) (kf : ¬ x.toInt = v → b = some q → G) : G := by
  by_cases h : x.toInt = v
  · rw [if_pos h] at hp; exact kt h hp
  · rw [if_neg h] at hp; exact kf h hp
theorem pv_tableIn (C : pz_C p s m args meth c cc nL own D cy A) {dflt lo1 hi : Int} {offs : Array Int} {len : Nat} {x : Int32} {v off : Int} {tgt : Nat} (hx : x.toInt = v) (hd : decode cc pc = .ok (.tableswitch dflt lo1 hi offs, len)) (g1 : ¬ v < lo1) (g2 : ¬ hi < v) (ho : offs[(v - lo1).toNat]? = some off) (ht : (pc : Int) + off = (tgt : Int)) (kk : pv_W p l e fr lo s m args below meth c nL D cy A n0 ad0 Q V0 σ V tgt loc st) : pv_W p l e fr lo s m args below meth c nL D cy A n0 ad0 Q V0 σ V pc loc (.int x :: st) :=
  fun M h1 h2 h3 => pz_tableIn C hd (by rw [hx]; exact g1) (by rw [hx]; exact g2) (by rw [hx]; exact ho) ht (kk M h1 h2 h3)
theorem pv_tableOut (C : pz_C p s m args meth c cc nL own D cy A) {dflt lo1 hi : Int} {offs : Array Int} {len : Nat} {x : Int32} {tgt : Nat} (hx : x.toInt < lo1 ∨ hi < x.toInt) (hd : decode cc pc = .ok (.tableswitch dflt lo1 hi offs, len)) (ht : (pc : Int) + dflt = (tgt : Int)) (kk : pv_W p l e fr lo s m args below meth c nL D cy A n0 ad0 Q V0 σ V tgt loc st) : pv_W p l e fr lo s m args below meth c nL D cy A n0 ad0 Q V0 σ V pc loc (.int x :: st) :=
  fun M h1 h2 h3 => pz_tableOut C hd hx ht (kk M h1 h2 h3)
theorem pv_getI (C : pz_C p s m args meth c cc nL own D cy A) {kt : Int → Option pvO} {C1 : String} {T : u_T} {N ci index k i : Nat} (hin : ∀ w ∈ u_ws C1 T N, w ∈ lw_good) (hc : pz_cl[ci]? = some (C1, T, N)) (hk : k < N) (hlink : Cond.fieldLink own index (T k).1 (T k).2.1 (T k).2.2.1 ∈ lw_good) (hi : Nat.blt i 84 = true) (hK : (pz_k0 i).1 = ci + 4) (hp : gR V i k kt = some q) (hli : pv_li i k = true) (hft : (pz_ft ci)[k]? = some 0) (hd : decode cc pc = .ok (.getfield index, 3)) (kk : ∀ x : Int32, kt x.toInt = some q → pv_W p l e fr lo s m args below meth c nL D cy A n0 ad0 Q V0 σ V (pc + 3) loc (.int x :: st)) : pv_W p l e fr lo s m args below meth c nL D cy A n0 ad0 Q V0 σ V pc loc (.ref i :: st) :=
  fun M h1 h2 h3 => pz_getI C hin hc hk hlink (shL h1.1 i hi) (shK h1.1 i hi hK) hft hd (kk _ (by rw [← h1.2.1 i k hli]; exact hp) M h1 h2 h3)
theorem pv_getJ (C : pz_C p s m args meth c cc nL own D cy A) {kt : Int → Option pvO} {C1 : String} {T : u_T} {N ci index k i : Nat} (hin : ∀ w ∈ u_ws C1 T N, w ∈ lw_good) (hc : pz_cl[ci]? = some (C1, T, N)) (hk : k < N) (hlink : Cond.fieldLink own index (T k).1 (T k).2.1 (T k).2.2.1 ∈ lw_good) (hi : Nat.blt i 84 = true) (hK : (pz_k0 i).1 = ci + 4) (hp : gR V i k kt = some q) (hli : pv_ll i k = true) (hft : (pz_ft ci)[k]? = some 1) (hd : decode cc pc = .ok (.getfield index, 3)) (kk : ∀ x : Int64, kt x.toInt = some q → pv_W p l e fr lo s m args below meth c nL D cy A n0 ad0 Q V0 σ V (pc + 3) loc (.long x :: st)) : pv_W p l e fr lo s m args below meth c nL D cy A n0 ad0 Q V0 σ V pc loc (.ref i :: st) :=
  fun M h1 h2 h3 => pz_getJ C hin hc hk hlink (shL h1.1 i hi) (shK h1.1 i hi hK) hft hd (kk _ (by rw [← h1.2.2.1 i k hli]; exact hp) M h1 h2 h3)
theorem pv_getR (C : pz_C p s m args meth c cc nL own D cy A) {C1 : String} {T : u_T} {N ci index k i : Nat} (hin : ∀ w ∈ u_ws C1 T N, w ∈ lw_good) (hc : pz_cl[ci]? = some (C1, T, N)) (hk : k < N) (hlink : Cond.fieldLink own index (T k).1 (T k).2.1 (T k).2.2.1 ∈ lw_good) (hi : Nat.blt i 84 = true) (hK : (pz_k0 i).1 = ci + 4) {j : Nat} (hk6 : Nat.blt k 60 = true) (hj : pz_r0 i k = some j) (hft : (pz_ft ci)[k]? = some 2) (hd : decode cc pc = .ok (.getfield index, 3)) (kk : pv_W p l e fr lo s m args below meth c nL D cy A n0 ad0 Q V0 σ V (pc + 3) loc (.ref j :: st)) : pv_W p l e fr lo s m args below meth c nL D cy A n0 ad0 Q V0 σ V pc loc (.ref i :: st) :=
  fun M h1 h2 h3 => pz_getR C hin hc hk hlink (shL h1.1 i hi) (shK h1.1 i hi hK) hft (shR h1.1 i k j hi hk6 hj) hd (kk M h1 h2 h3)
theorem pv_putI (C : pz_C p s m args meth c cc nL own D cy A) {kt : pvM → Option pvO} {x : Int32} {C1 : String} {T : u_T} {N ci index k i : Nat} (hin : ∀ w ∈ u_ws C1 T N, w ∈ lw_good) (hc : pz_cl[ci]? = some (C1, T, N)) (hk : k < N) (hlink : Cond.fieldLink own index (T k).1 (T k).2.1 (T k).2.2.1 ∈ lw_good) (hi : Nat.blt i 84 = true) (hK : (pz_k0 i).1 = ci + 4) {ty0 : Nat → FieldType} (hty : ∀ k, k < N → parseFieldDescriptor (T k).2.2.1 = some (ty0 k)) (hnm : ∀ a, a < N → ∀ b, b < N → a ≠ b → (T a).2.1 ≠ (T b).2.1) (hp : gW V i k x.toInt kt = some q) (hli : pv_lp i k = true) (hft : (pz_ft ci)[k]? = some 0) (hfin : (T k).2.2.2 = false) (hpd : parseFieldDescriptor (T k).2.2.1 = some .int) (hd : decode cc pc = .ok (.putfield index, 3)) (kk : ∀ V' : pvM, kt V' = some q → pv_W p l e fr lo s m args below meth c nL D cy A n0 ad0 Q V0 σ V' (pc + 3) loc st) : pv_W p l e fr lo s m args below meth c nL D cy A n0 ad0 Q V0 σ V pc loc (.int x :: .ref i :: st) := by
  intro M h1 h2 h3
  unfold pv_lp at hli
  simp only [Bool.and_eq_true, Bool.not_eq_true', Bool.or_eq_false_iff, beq_eq_false_iff_ne] at hli
  have k9 := kk _ hp _ (pv_R_put h1 hli.1 (Or.inl hli.2)) h2 (pv_Bu hi h3)
  rw [(pv_cu (V := V) (k := k) (x := x.toInt) hi).1, (pv_cu (V := V) (k := k) (x := x.toInt) hi).2] at k9
  exact pz_putI C hin hc hk hlink (shL h1.1 i hi) (shK h1.1 i hi hK) hty hnm hft hfin hpd hd k9
theorem pv_putZ (C : pz_C p s m args meth c cc nL own D cy A) {kt : pvM → Option pvO} {x : Int32} {C1 : String} {T : u_T} {N ci index k i : Nat} (hin : ∀ w ∈ u_ws C1 T N, w ∈ lw_good) (hc : pz_cl[ci]? = some (C1, T, N)) (hk : k < N) (hlink : Cond.fieldLink own index (T k).1 (T k).2.1 (T k).2.2.1 ∈ lw_good) (hi : Nat.blt i 84 = true) (hK : (pz_k0 i).1 = ci + 4) {ty0 : Nat → FieldType} (hty : ∀ k, k < N → parseFieldDescriptor (T k).2.2.1 = some (ty0 k)) (hnm : ∀ a, a < N → ∀ b, b < N → a ≠ b → (T a).2.1 ≠ (T b).2.1) (hp : bT x.toInt (gW V i k x.toInt kt) = some q) (hli : pv_lp i k = true) (hft : (pz_ft ci)[k]? = some 0) (hfin : (T k).2.2.2 = false) (hpd : parseFieldDescriptor (T k).2.2.1 = some .boolean) (hd : decode cc pc = .ok (.putfield index, 3)) (kk : ∀ V' : pvM, kt V' = some q → pv_W p l e fr lo s m args below meth c nL D cy A n0 ad0 Q V0 σ V' (pc + 3) loc st) : pv_W p l e fr lo s m args below meth c nL D cy A n0 ad0 Q V0 σ V pc loc (.int x :: .ref i :: st) := by
  intro M h1 h2 h3
  unfold bT at hp
  by_cases hz : x.toInt = 0 ∨ x.toInt = 1
  · rw [if_pos hz] at hp
    unfold pv_lp at hli
    simp only [Bool.and_eq_true, Bool.not_eq_true', Bool.or_eq_false_iff, beq_eq_false_iff_ne] at hli
    have k9 := kk _ hp _ (pv_R_put h1 hli.1 (Or.inl hli.2)) h2 (pv_Bu hi h3)
    rw [(pv_cu (V := V) (k := k) (x := x.toInt) hi).1, (pv_cu (V := V) (k := k) (x := x.toInt) hi).2] at k9
    exact pz_putIZ C hin hc hk hlink (shL h1.1 i hi) (shK h1.1 i hi hK) hty hnm hft hfin hpd (pv_nar_z hz).2.1 (pv_nar_z hz).2.2 hd k9
  · rw [if_neg hz] at hp; cases hp
theorem pv_putJ (C : pz_C p s m args meth c cc nL own D cy A) {kt : pvM → Option pvO} {x : Int64} {C1 : String} {T : u_T} {N ci index k i : Nat} (hin : ∀ w ∈ u_ws C1 T N, w ∈ lw_good) (hc : pz_cl[ci]? = some (C1, T, N)) (hk : k < N) (hlink : Cond.fieldLink own index (T k).1 (T k).2.1 (T k).2.2.1 ∈ lw_good) (hi : Nat.blt i 84 = true) (hK : (pz_k0 i).1 = ci + 4) {ty0 : Nat → FieldType} (hty : ∀ k, k < N → parseFieldDescriptor (T k).2.2.1 = some (ty0 k)) (hnm : ∀ a, a < N → ∀ b, b < N → a ≠ b → (T a).2.1 ≠ (T b).2.1) (hp : gW V i k x.toInt kt = some q) (hli : pv_ll i k = true) (hft : (pz_ft ci)[k]? = some 1) (hfin : (T k).2.2.2 = false) (hpd : parseFieldDescriptor (T k).2.2.1 = some .long) (hd : decode cc pc = .ok (.putfield index, 3)) (kk : ∀ V' : pvM, kt V' = some q → pv_W p l e fr lo s m args below meth c nL D cy A n0 ad0 Q V0 σ V' (pc + 3) loc st) : pv_W p l e fr lo s m args below meth c nL D cy A n0 ad0 Q V0 σ V pc loc (.long x :: .ref i :: st) := by
  intro M h1 h2 h3
  have k9 := kk _ hp _ (pv_R_putL h1 hli) h2 (pv_Bu hi h3)
  rw [(pv_cu (V := V) (k := k) (x := x.toInt) hi).1, (pv_cu (V := V) (k := k) (x := x.toInt) hi).2] at k9
  exact pz_putJ C hin hc hk hlink (shL h1.1 i hi) (shK h1.1 i hi hK) hty hnm hft hfin hpd hd k9
theorem pv_iald (C : pz_C p s m args meth c cc nL own D cy A) {kt : Int → Option pvO} {i N : Nat} {x : Int32} (hp : aR V i N x.toInt kt = some q) (hi : Nat.blt i 84 = true) (hK : (pz_k0 i).1 = 1) (hN : (pz_k0 i).2 = N) (hli : ∀ k, pv_li i k = true) (hd : decode cc pc = .ok (.iaload, 1)) (kk : ∀ z : Int32, kt z.toInt = some q → pv_W p l e fr lo s m args below meth c nL D cy A n0 ad0 Q V0 σ V (pc + 1) loc (.int z :: st)) : pv_W p l e fr lo s m args below meth c nL D cy A n0 ad0 Q V0 σ V pc loc (.int x :: .ref i :: st) := by
  intro M h1 h2 h3
  unfold aR at hp
  by_cases hz : 0 ≤ x.toInt ∧ x.toInt < (N : Int)
  · rw [if_pos hz, h1.2.1 i _ (hli _)] at hp
    exact pz_iald C (shL h1.1 i hi) (shK h1.1 i hi hK) (shB h1.1 i hi hN (pv_in hz)) hd (kk _ hp M h1 h2 h3)
  · rw [if_neg hz] at hp; cases hp
theorem pv_bald (C : pz_C p s m args meth c cc nL own D cy A) {kt : Int → Option pvO} {i N : Nat} {x : Int32} (hp : aR V i N x.toInt kt = some q) (hi : Nat.blt i 84 = true) (hK : (pz_k0 i).1 = 0) (hN : (pz_k0 i).2 = N) (hli : ∀ k, pv_li i k = true) (hd : decode cc pc = .ok (.baload, 1)) (kk : ∀ z : Int32, kt z.toInt = some q → pv_W p l e fr lo s m args below meth c nL D cy A n0 ad0 Q V0 σ V (pc + 1) loc (.int z :: st)) : pv_W p l e fr lo s m args below meth c nL D cy A n0 ad0 Q V0 σ V pc loc (.int x :: .ref i :: st) := by
  intro M h1 h2 h3
  unfold aR at hp
  by_cases hz : 0 ≤ x.toInt ∧ x.toInt < (N : Int)
  · rw [if_pos hz, h1.2.1 i _ (hli _)] at hp
    exact pz_bald C (shL h1.1 i hi) (shK h1.1 i hi hK) (shB h1.1 i hi hN (pv_in hz)) hd (kk _ hp M h1 h2 h3)
  · rw [if_neg hz] at hp; cases hp
theorem pv_zald (C : pz_C p s m args meth c cc nL own D cy A) {kt : Int → Option pvO} {i N : Nat} {x : Int32} (hp : aR V i N x.toInt kt = some q) (hi : Nat.blt i 84 = true) (hK : (pz_k0 i).1 = 3) (hN : (pz_k0 i).2 = N) (hli : ∀ k, pv_li i k = true) (hd : decode cc pc = .ok (.baload, 1)) (kk : ∀ z : Int32, kt z.toInt = some q → pv_W p l e fr lo s m args below meth c nL D cy A n0 ad0 Q V0 σ V (pc + 1) loc (.int z :: st)) : pv_W p l e fr lo s m args below meth c nL D cy A n0 ad0 Q V0 σ V pc loc (.int x :: .ref i :: st) := by
  intro M h1 h2 h3
  unfold aR at hp
  by_cases hz : 0 ≤ x.toInt ∧ x.toInt < (N : Int)
  · rw [if_pos hz, h1.2.1 i _ (hli _)] at hp
    exact pz_zald C (shL h1.1 i hi) (shK h1.1 i hi hK) (shB h1.1 i hi hN (pv_in hz)) hd (kk _ hp M h1 h2 h3)
  · rw [if_neg hz] at hp; cases hp
theorem pv_lald (C : pz_C p s m args meth c cc nL own D cy A) {kt : Int → Option pvO} {i N : Nat} {x : Int32} (hp : aR V i N x.toInt kt = some q) (hi : Nat.blt i 84 = true) (hK : (pz_k0 i).1 = 2) (hN : (pz_k0 i).2 = N) (hli : ∀ k, pv_ll i k = true) (hd : decode cc pc = .ok (.laload, 1)) (kk : ∀ z : Int64, kt z.toInt = some q → pv_W p l e fr lo s m args below meth c nL D cy A n0 ad0 Q V0 σ V (pc + 1) loc (.long z :: st)) : pv_W p l e fr lo s m args below meth c nL D cy A n0 ad0 Q V0 σ V pc loc (.int x :: .ref i :: st) := by
  intro M h1 h2 h3
  unfold aR at hp
  by_cases hz : 0 ≤ x.toInt ∧ x.toInt < (N : Int)
  · rw [if_pos hz, h1.2.2.1 i _ (hli _)] at hp
    exact pz_lald C (shL h1.1 i hi) (shK h1.1 i hi hK) (shB h1.1 i hi hN (pv_in hz)) hd (kk _ hp M h1 h2 h3)
  · rw [if_neg hz] at hp; cases hp
theorem pv_iast (C : pz_C p s m args meth c cc nL own D cy A) {kt : pvM → Option pvO} {y : Int32} {i N : Nat} {x : Int32} (hp : aW V i N x.toInt y.toInt kt = some q) (hi : Nat.blt i 84 = true) (hK : (pz_k0 i).1 = 1) (hN : (pz_k0 i).2 = N) (hli : ∀ k, pv_lp i k = true) (hd : decode cc pc = .ok (.iastore, 1)) (kk : ∀ V' : pvM, kt V' = some q → pv_W p l e fr lo s m args below meth c nL D cy A n0 ad0 Q V0 σ V' (pc + 1) loc st) : pv_W p l e fr lo s m args below meth c nL D cy A n0 ad0 Q V0 σ V pc loc (.int y :: .int x :: .ref i :: st) := by
  intro M h1 h2 h3
  unfold aW at hp
  by_cases hz : 0 ≤ x.toInt ∧ x.toInt < (N : Int)
  · rw [if_pos hz] at hp
    have hli := hli x.toInt.toNat
    unfold pv_lp at hli
    simp only [Bool.and_eq_true, Bool.not_eq_true', Bool.or_eq_false_iff, beq_eq_false_iff_ne] at hli
    have k9 := kk _ hp _ (pv_R_put h1 hli.1 (Or.inl hli.2)) h2 (pv_Bu hi h3)
    rw [(pv_cu (V := V) (k := x.toInt.toNat) (x := y.toInt) hi).1, (pv_cu (V := V) (k := x.toInt.toNat) (x := y.toInt) hi).2] at k9
    exact pz_iast C (shL h1.1 i hi) (shK h1.1 i hi hK) (shB h1.1 i hi hN (pv_in hz)) hd k9
  · rw [if_neg hz] at hp; cases hp
theorem pv_zast (C : pz_C p s m args meth c cc nL own D cy A) {kt : pvM → Option pvO} {y : Int32} {i N : Nat} {x : Int32} (hp : bT y.toInt (aW V i N x.toInt y.toInt kt) = some q) (hi : Nat.blt i 84 = true) (hK : (pz_k0 i).1 = 3) (hN : (pz_k0 i).2 = N) (hli : ∀ k, pv_lp i k = true) (hd : decode cc pc = .ok (.bastore, 1)) (kk : ∀ V' : pvM, kt V' = some q → pv_W p l e fr lo s m args below meth c nL D cy A n0 ad0 Q V0 σ V' (pc + 1) loc st) : pv_W p l e fr lo s m args below meth c nL D cy A n0 ad0 Q V0 σ V pc loc (.int y :: .int x :: .ref i :: st) := by
  intro M h1 h2 h3
  unfold bT aW at hp
  by_cases hy : y.toInt = 0 ∨ y.toInt = 1
  · rw [if_pos hy] at hp
    by_cases hz : 0 ≤ x.toInt ∧ x.toInt < (N : Int)
    · rw [if_pos hz] at hp
      have hli := hli x.toInt.toNat
      unfold pv_lp at hli
      simp only [Bool.and_eq_true, Bool.not_eq_true', Bool.or_eq_false_iff, beq_eq_false_iff_ne] at hli
      have k9 := kk _ hp _ (pv_R_put h1 hli.1 (Or.inl hli.2)) h2 (pv_Bu hi h3)
      rw [(pv_cu (V := V) (k := x.toInt.toNat) (x := y.toInt) hi).1, (pv_cu (V := V) (k := x.toInt.toNat) (x := y.toInt) hi).2] at k9
      refine pz_zast C (shL h1.1 i hi) (shK h1.1 i hi hK) (shB h1.1 i hi hN (pv_in hz)) hd ?_
      rw [(pv_nar_z hy).1]
      exact k9
    · rw [if_neg hz] at hp; cases hp
  · rw [if_neg hy] at hp; cases hp
theorem pv_bast (C : pz_C p s m args meth c cc nL own D cy A) {kt : pvM → Option pvO} {y : Int32} {i N : Nat} {x : Int32} (hp : aW V i N x.toInt (pv_wb y.toInt) kt = some q) (hi : Nat.blt i 84 = true) (hK : (pz_k0 i).1 = 0) (hN : (pz_k0 i).2 = N) (hli : ∀ k, pv_li i k = true) (hd : decode cc pc = .ok (.bastore, 1)) (kk : ∀ V' : pvM, kt V' = some q → pv_W p l e fr lo s m args below meth c nL D cy A n0 ad0 Q V0 σ V' (pc + 1) loc st) : pv_W p l e fr lo s m args below meth c nL D cy A n0 ad0 Q V0 σ V pc loc (.int y :: .int x :: .ref i :: st) := by
  intro M h1 h2 h3
  unfold aW at hp
  by_cases hz : 0 ≤ x.toInt ∧ x.toInt < (N : Int)
  · rw [if_pos hz, ← pv_nar_b] at hp
    have k9 := kk _ hp _ (pv_R_put h1 (hli _) (Or.inr (by rw [pv_nar_b]; exact pv_wb_r _))) h2 (pv_Bu hi h3)
    rw [(pv_cu (V := V) (k := x.toInt.toNat) (x := (vp_nar .byte y).toInt) hi).1, (pv_cu (V := V) (k := x.toInt.toNat) (x := (vp_nar .byte y).toInt) hi).2] at k9
    exact pz_bast C (shL h1.1 i hi) (shK h1.1 i hi hK) (shB h1.1 i hi hN (pv_in hz)) hd k9
  · rw [if_neg hz] at hp; cases hp
theorem pv_last (C : pz_C p s m args meth c cc nL own D cy A) {kt : pvM → Option pvO} {y : Int64} {i N : Nat} {x : Int32} (hp : aW V i N x.toInt y.toInt kt = some q) (hi : Nat.blt i 84 = true) (hK : (pz_k0 i).1 = 2) (hN : (pz_k0 i).2 = N) (hli : ∀ k, pv_ll i k = true) (hd : decode cc pc = .ok (.lastore, 1)) (kk : ∀ V' : pvM, kt V' = some q → pv_W p l e fr lo s m args below meth c nL D cy A n0 ad0 Q V0 σ V' (pc + 1) loc st) : pv_W p l e fr lo s m args below meth c nL D cy A n0 ad0 Q V0 σ V pc loc (.long y :: .int x :: .ref i :: st) := by
  intro M h1 h2 h3
  unfold aW at hp
  by_cases hz : 0 ≤ x.toInt ∧ x.toInt < (N : Int)
  · rw [if_pos hz] at hp
    have k9 := kk _ hp _ (pv_R_putL h1 (hli _)) h2 (pv_Bu hi h3)
    rw [(pv_cu (V := V) (k := x.toInt.toNat) (x := y.toInt) hi).1, (pv_cu (V := V) (k := x.toInt.toNat) (x := y.toInt) hi).2] at k9
    exact pz_last C (shL h1.1 i hi) (shK h1.1 i hi hK) (shB h1.1 i hi hN (pv_in hz)) hd k9
  · rw [if_neg hz] at hp; cases hp
theorem pv_iret (C : pz_C p s m args meth c cc nL own D cy A) {x : Int32} (hkd : kd = 1) (hp : rT V x.toInt = some q) (hr : meth.sig.returnType = some .int) (hd : decode cc pc = .ok (.ireturn, 1)) : pv_W p l e fr lo s m args below meth c nL D cy A n0 ad0 (pv_Q below D cy n0 ad0 kd V0 q A args s) V0 σ V pc loc [.int x] := by
  intro M h1 h2 h3
  cases hp
  subst hkd
  exact pz_iret C hr (Nat.le_refl _) (Nat.le_refl _) hd ⟨rfl, ⟨x, rfl, rfl⟩, h1, h2, h3⟩
theorem pv_lret (C : pz_C p s m args meth c cc nL own D cy A) {x : Int64} (hkd : kd = 2) (hp : rT V x.toInt = some q) (hr : meth.sig.returnType = some .long) (hd : decode cc pc = .ok (.lreturn, 1)) : pv_W p l e fr lo s m args below meth c nL D cy A n0 ad0 (pv_Q below D cy n0 ad0 kd V0 q A args s) V0 σ V pc loc [.long x] := by
  intro M h1 h2 h3
  cases hp
  subst hkd
  exact pz_lret C hr (Nat.le_refl _) (Nat.le_refl _) hd ⟨rfl, ⟨x, rfl, rfl⟩, h1, h2, h3⟩
theorem pv_zret (C : pz_C p s m args meth c cc nL own D cy A) {x : Int32} (hkd : kd = 1) (hp : bT x.toInt (rT V x.toInt) = some q) (hr : meth.sig.returnType = some .boolean) (hd : decode cc pc = .ok (.ireturn, 1)) : pv_W p l e fr lo s m args below meth c nL D cy A n0 ad0 (pv_Q below D cy n0 ad0 kd V0 q A args s) V0 σ V pc loc [.int x] := by
  intro M h1 h2 h3
  unfold bT at hp
  by_cases hz : x.toInt = 0 ∨ x.toInt = 1
  · rw [if_pos hz] at hp
    cases hp
    subst hkd
    exact pz_zret C hr (pv_nar_z hz).2.1 (Nat.le_refl _) (Nat.le_refl _) hd ⟨rfl, ⟨x, rfl, rfl⟩, h1, h2, h3⟩
  · rw [if_neg hz] at hp; cases hp
theorem pv_vret (C : pz_C p s m args meth c cc nL own D cy A) {z : Int} (hkd : kd = 0) (hp : rT V z = some q) (hr : meth.sig.returnType = none) (hd : decode cc pc = .ok (.return_, 1)) : pv_W p l e fr lo s m args below meth c nL D cy A n0 ad0 (pv_Q below D cy n0 ad0 kd V0 q A args s) V0 σ V pc loc [] := by
  intro M h1 h2 h3
  cases hp
  subst hkd
  exact pz_vret C hr (Nat.le_refl _) (Nat.le_refl _) hd ⟨rfl, rfl, h1, h2, h3⟩
theorem pv_aret (C : pz_C p s m args meth c cc nL own D cy A) {v : Nat} {z : Int} {rt : FieldType} (hkd : kd = v + 3) (hp : rT V z = some q) (hr : meth.sig.returnType = some rt) (hrt : (∃ n, rt = .object n) ∨ ∃ t, rt = .array t) (hd : decode cc pc = .ok (.areturn, 1)) : pv_W p l e fr lo s m args below meth c nL D cy A n0 ad0 (pv_Q below D cy n0 ad0 kd V0 q A args s) V0 σ V pc loc [.ref v] := by
  intro M h1 h2 h3
  cases hp
  subst hkd
  exact pz_aret C hr hrt (Nat.le_refl _) (Nat.le_refl _) hd ⟨rfl, rfl, h1, h2, h3⟩
/-- behind a call: the callee's answer and memory -/
def pv_K (p : Program) (l : Launch) (e : Env) (fr lo : Nat) (s : State) (m : MethodId) (args : Array Value) (below : List Frame) (meth : Method) (c : Code) (nL : Nat) (D : va_G) (cy : Nat → ClassId) (A : Nat → Prop) (n0 : Nat) (ad0 : Nat → Nat) (Q : State → Prop) (V0 : pvM) (pc : Nat) (loc : List (Nat × Value)) (rest : List Value) (q : pvO) (kt : Int → pvM → Option pvO) : Nat → Prop
  | 0 => ∀ (x : Int) (σ' : pzS) (V' : pvM), kt x V' = some q → pv_W p l e fr lo s m args below meth c nL D cy A n0 ad0 Q V0 σ' V' pc loc rest
  | 1 => ∀ (x : Int32) (σ' : pzS) (V' : pvM), kt x.toInt V' = some q → pv_W p l e fr lo s m args below meth c nL D cy A n0 ad0 Q V0 σ' V' pc loc (.int x :: rest)
  | 2 => ∀ (x : Int64) (σ' : pzS) (V' : pvM), kt x.toInt V' = some q → pv_W p l e fr lo s m args below meth c nL D cy A n0 ad0 Q V0 σ' V' pc loc (.long x :: rest)
  | v + 3 => ∀ (x : Int) (σ' : pzS) (V' : pvM), kt x V' = some q → pv_W p l e fr lo s m args below meth c nL D cy A n0 ad0 Q V0 σ' V' pc loc (.ref v :: rest)
theorem pv_kont {kt : Int → pvM → Option pvO} {kd1 : Nat} {rest : List Value} {q1 : pvO} {r : Option Value} {σ' : pzS} {M' : pzM} {n1 : Nat} (kk : pv_K p l e fr lo s m args below meth c nL D cy A n0 ad0 Q V0 pc loc rest q kt kd1) (hk : kt q1.2.1 q1.2.2 = some q) (h2 : n0 ≤ n1) (h3 : pv_B V0 V) (hp : pv_post kd1 V q1 n1 r σ' M') : pz_W p l e (pv_rm fr lo V0) s m args below meth c nL D cy A n0 ad0 Q σ' M' (pv_c V - pv_c V0 + (pv_c q1.2.2 - pv_c V)) (pv_s V - pv_s V0 + (pv_s q1.2.2 - pv_s V)) pc loc (r.toList ++ rest) := by
  obtain ⟨-, hr, hR, hn, hB⟩ := hp
  unfold pv_B at h3 hB
  have hB9 : pv_B V0 q1.2.2 := by unfold pv_B; omega
  rw [show pv_c V - pv_c V0 + (pv_c q1.2.2 - pv_c V) = pv_c q1.2.2 - pv_c V0 from by omega, show pv_s V - pv_s V0 + (pv_s q1.2.2 - pv_s V) = pv_s q1.2.2 - pv_s V0 from by omega]
  match kd1, kk, hr with
  | 0, kk, hr => cases hr; exact kk _ σ' _ hk M' hR (Nat.le_trans h2 hn) hB9
  | 1, kk, hr => obtain ⟨x, rfl, hx⟩ := hr; exact kk x σ' _ (by rw [hx]; exact hk) M' hR (Nat.le_trans h2 hn) hB9
  | 2, kk, hr => obtain ⟨x, rfl, hx⟩ := hr; exact kk x σ' _ (by rw [hx]; exact hk) M' hR (Nat.le_trans h2 hn) hB9
  | v + 3, kk, hr => cases hr; exact kk _ σ' _ hk M' hR (Nat.le_trans h2 hn) hB9
theorem pv_cL {o : Option pvO} {kt : Int → pvM → Option pvO} (hp : cL o kt = some q) : ∃ q1 : pvO, o = some q1 ∧ kt q1.2.1 q1.2.2 = some q := by
  unfold cL at hp
  split at hp
  · exact ⟨_, rfl, hp⟩
  · cases hp
theorem pv_room9 {V0 V : pvM} (h : pv_B V0 V) : pv_c V - pv_c V0 + (pv_LC - pv_c V) ≤ pv_LC - pv_c V0 ∧ pv_s V - pv_s V0 + (pv_LS - pv_s V) ≤ pv_LS - pv_s V0 := by
  unfold pv_B at h
  omega
/-- which references stand in a row: all below 84 -/
def pv_al (st : List Value) : Bool := st.all (fun v => match v with | .ref i => Nat.blt i 84 | _ => true)
def pv_all (loc : List (Nat × Value)) : Bool := loc.all (fun v => match v.2 with | .ref i => Nat.blt i 84 | _ => true)
theorem pv_al_p {n : Nat} (hn : 84 ≤ n) : ∀ {st : List Value}, pv_al st = true → pz_all n st
  | [], _ => trivial
  | v :: t, h => by
    unfold pv_al at h
    rw [List.all_cons, Bool.and_eq_true] at h
    refine ⟨?_, pv_al_p hn h.2⟩
    cases v <;> first | trivial | exact Nat.lt_of_lt_of_le (Nat.blt_eq.mp h.1) hn
theorem pv_all_p {n : Nat} (hn : 84 ≤ n) : ∀ {st : List (Nat × Value)}, pv_all st = true → pz_alll n st
  | [], _ => trivial
  | (a, v) :: t, h => by
    unfold pv_all at h
    rw [List.all_cons, Bool.and_eq_true] at h
    refine ⟨?_, pv_all_p hn h.2⟩
    cases v <;> first | trivial | exact Nat.lt_of_lt_of_le (Nat.blt_eq.mp h.1) hn
theorem pv_callV (C : pz_C p s m args meth c cc nL own D cy A) {y : MethodName} {bytes : ByteArray} {maxL fr1 lo1 n index kd1 ci b N : Nat} {ret : Option FieldType} {As rest : List Value} {o : Option pvO} {kt : Int → pvM → Option pvO} (hp : cL o kt = some q) (hM : ∀ q1, o = some q1 → pv_Met l y bytes maxL ret fr1 lo1 D cy V (.ref b :: As) kd1 q1) (hw : pz_wB y bytes maxL ret n) (hw1 : Cond.methodLink own index y ∈ lw_good) (hw2 : Cond.instanceMethod y ∈ lw_good) (hw3 : Cond.selects y.cls y y ∈ lw_good) {T : u_T} (hci : pz_cl[ci]? = some (y.cls, T, N)) (hb : Nat.blt b 84 = true) (hK : (pz_k0 b).1 = ci + 4) (hn : As.length = n) (hst : st = As.reverse ++ .ref b :: rest) (hcat : (rest.map fun v => v.category).sum ≤ 8) (hR : fr1 + 1 ≤ fr ∧ 8 + (maxL + 11) + lo1 ≤ lo) (hd : decode cc pc = .ok (.invokevirtual index, 3)) (g1 : pv_al rest = true) (g2 : pv_all loc = true) (kk : pv_K p l e fr lo s m args below meth c nL D cy A n0 ad0 Q V0 (pc + 3) loc rest q kt kd1) : pv_W p l e fr lo s m args below meth c nL D cy A n0 ad0 Q V0 σ V pc loc st := by
  intro M h1 h2 h3
  obtain ⟨q1, ho, hk⟩ := pv_cL hp
  have hMet := hM q1 ho σ M h1 h3.2.1 h3.2.2.2
  intro ad H locs ls ha hP hD hS hl
  subst hst
  have hcw : CallW (pv_rm fr lo V0) s args own y.cls index y bytes maxL ret (Cond.code y bytes maxL ret :: lw_good) (pv_rm fr1 lo1 V) (pv_LC - pv_c V) (pv_LS - pv_s V) n :=
    ⟨callB_of n C.1.2.2.2.2 (pz_goodIn hw) rfl rfl rfl (C.1.2.2.2.2 _ hw.1) (C.1.2.2.2.2 _ hw1) hw.2.2 hR, C.1.2.2.2.2 _ hw2, C.1.2.2.2.2 _ hw3⟩
  have hpre : PreV s H y.cls (ad b) (va_Pc ((.ref b :: As).map (pz_t ad)) (pz_Pre D cy ad H.size σ M)) (As.map (pz_t ad)) :=
    ⟨pz_blind, va_recv C.2.1 hP hci (pz_at (shL h1.1 b hb) (shK h1.1 b hb hK)), (pz_pre (av := .ref b :: As) C hP hD).2⟩
  exact pz_run C (pv_runV (As := As.map (pz_t ad)) (rest := rest.map (pz_t ad)) (b := ad b) C.1 (hMet ad H.size) hcw hpre rfl (by rw [List.length_map]; exact hn) hl.1 (by simp [pz_t, List.map_reverse]) (pz_room hcat) hd (pv_room9 h3)) h2 (pv_al_p h1.1.1 g1) (pv_all_p h1.1.1 g2) ha hD hS hl (fun r σ' M' hpp => pv_kont kk hk h2 h3 hpp)
theorem pv_callS (C : pz_C p s m args meth c cc nL own D cy A) {y : MethodName} {bytes : ByteArray} {maxL fr1 lo1 n index kd1 : Nat} {ret : Option FieldType} {As rest : List Value} {o : Option pvO} {kt : Int → pvM → Option pvO} (hp : cL o kt = some q) (hM : ∀ q1, o = some q1 → pv_Met l y bytes maxL ret fr1 lo1 D cy V As kd1 q1) (hw : pz_wB y bytes maxL ret n) (hw1 : Cond.methodLink own index y ∈ lw_good) (hw2 : Cond.static y ∈ lw_good) (hn : As.length = n) (hst : st = As.reverse ++ rest) (hcat : (rest.map fun v => v.category).sum ≤ 8) (hR : fr1 + 1 ≤ fr ∧ 8 + (maxL + 11) + lo1 ≤ lo) (hd : decode cc pc = .ok (.invokestatic index, 3)) (g1 : pv_al rest = true) (g2 : pv_all loc = true) (kk : pv_K p l e fr lo s m args below meth c nL D cy A n0 ad0 Q V0 (pc + 3) loc rest q kt kd1) : pv_W p l e fr lo s m args below meth c nL D cy A n0 ad0 Q V0 σ V pc loc st := by
  intro M h1 h2 h3
  obtain ⟨q1, ho, hk⟩ := pv_cL hp
  have hMet := hM q1 ho σ M h1 h3.2.1 h3.2.2.2
  intro ad H locs ls ha hP hD hS hl
  subst hst
  exact pz_run C (pv_runS (As := As.map (pz_t ad)) (rest := rest.map (pz_t ad)) C.1 (hMet ad H.size) ⟨callB_of n C.1.2.2.2.2 (pz_goodIn hw) rfl rfl rfl (C.1.2.2.2.2 _ hw.1) (C.1.2.2.2.2 _ hw1) hw.2.2 hR, C.1.2.2.2.2 _ hw2⟩ (pz_pre C hP hD) rfl (by rw [List.length_map]; exact hn) hl.1 (by simp [List.map_reverse]) (pz_room hcat) hd (pv_room9 h3)) h2 (pv_al_p h1.1.1 g1) (pv_all_p h1.1.1 g2) ha hD hS hl (fun r σ' M' hpp => pv_kont kk hk h2 h3 hpp)
theorem pv_callSN (C : pz_C p s m args meth c cc nL own D cy A) {y : MethodName} {bytes : ByteArray} {maxL fr1 lo1 n index kd1 : Nat} {ret : Option FieldType} {As rest : List Value} {o : Option pvO} {kt : Int → pvM → Option pvO} (hp : cL o kt = some q) (hM : ∀ q1, o = some q1 → pv_Met l y bytes maxL ret fr1 lo1 D cy V As kd1 q1) (hw : pz_wB y bytes maxL ret n) {host : String} (hw1 : (own, index, y, host) ∈ pz_nests) (hw2 : Cond.static y ∈ lw_good) (hn : As.length = n) (hst : st = As.reverse ++ rest) (hcat : (rest.map fun v => v.category).sum ≤ 8) (hR : fr1 + 1 ≤ fr ∧ 8 + (maxL + 11) + lo1 ≤ lo) (hd : decode cc pc = .ok (.invokestatic index, 3)) (g1 : pv_al rest = true) (g2 : pv_all loc = true) (kk : pv_K p l e fr lo s m args below meth c nL D cy A n0 ad0 Q V0 (pc + 3) loc rest q kt kd1) : pv_W p l e fr lo s m args below meth c nL D cy A n0 ad0 Q V0 σ V pc loc st := by
  intro M h1 h2 h3
  obtain ⟨q1, ho, hk⟩ := pv_cL hp
  have hMet := hM q1 ho σ M h1 h3.2.1 h3.2.2.2
  intro ad H locs ls ha hP hD hS hl
  subst hst
  exact pz_run C (pv_runSN (As := As.map (pz_t ad)) (rest := rest.map (pz_t ad)) C.1 (hMet ad H.size) ⟨va_cnB n C.1.2.2.2.2 (pz_goodIn hw) rfl rfl rfl (C.2.2.2.2.1 _ hw1) (C.1.2.2.2.2 _ hw.1) hw.2.2 hR, C.1.2.2.2.2 _ hw2, trivial⟩ (pz_pre C hP hD) rfl (by rw [List.length_map]; exact hn) hl.1 (by simp [List.map_reverse]) (pz_room hcat) hd (pv_room9 h3)) h2 (pv_al_p h1.1.1 g1) (pv_all_p h1.1.1 g2) ha hD hS hl (fun r σ' M' hpp => pv_kont kk hk h2 h3 hpp)
end PVR
