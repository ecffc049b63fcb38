/-! The law's start: the picture of the world that the constructors make; texts and statics -/
/-- the cells at the loop's head -/
def cB0 (i : Nat) : AC := hGet bsB (wH wH0) i
def fldB (c i : Nat) : AV := match cB0 c with
  | .inr (_, fs) => fs.getD i (aI 0)
  | _ => aI 0
def arrB (c : Nat) : AB := match cB0 c with
  | .inl (_, _, b) => b
  | _ => .inl []
def pic (v : VL) : PS := (fun k => cZ v (fldB (owI k).1 (owI k).2), fun k => cQ v (fldB (owJ k).1 (owJ k).2), fun a j => cBz v (arrB (owA a)) j, fun a j => cBq v (arrB (owA a)) j, [])
def isZ : AV → Bool
  | .inl _ => true
  | .inr (.inl _) => true
  | _ => false
def isRR : AV → Bool
  | .inr (.inr (.inr (.inr (.inl _)))) => true
  | _ => false
def isQ : AV → Bool
  | .inr (.inr (.inl _)) => true
  | .inr (.inr (.inr (.inl _))) => true
  | _ => false
def chkF (c i : Nat) (f f' : AV) : Bool := match f' with
  | .inr (.inl k) => Nat.beq (owI k).1 c && Nat.beq (owI k).2 i && isZ f
  | .inr (.inr (.inr (.inl k))) => Nat.beq (owJ k).1 c && Nat.beq (owJ k).2 i && isQ f
  | .inr (.inr (.inr (.inr (.inl r)))) => decide (f = aR r)
  | _ => false
def chkFs (c : Nat) : Nat → List AV → List AV → Bool
  | _, [], [] => true
  | i, f :: fs, h :: hs => chkF c i f h && chkFs c (i + 1) fs hs
  | _, _, _ => false
def chkP (i : Nat) : Bool := match cB0 i, bsS i with
  | .inr (ci, fs), .inr (ci', fs') => Nat.beq ci ci' && chkFs i 0 fs fs'
  | .inl (t, n, _), .inl (t', n', .inr (_, _, a)) => Nat.beq t t' && Nat.beq n n' && Nat.ble t 2 && Nat.beq (owA a) i
  | .inl (t, n, .inl l), .inl (t', n', .inl l') => Nat.beq t t' && Nat.beq n n' && Nat.ble 3 t && qLV l l' && l.all isRR
  | _, _ => false
theorem chkP_all : (List.range 518).all chkP = true := by decide +kernel
section PC
variable {v : VL} {dT : Nat → ClassId}
theorem cv_pic {c i : Nat} {f h : AV} (e : chkF c i f h = true) (hf : fldB c i = f) : cv v f = cv (vS (vA v) (pic v)) h := by
  rcases h with z | k | n | k | r | k
  · cases e
  · simp only [chkF, Bool.and_eq_true] at e
    obtain ⟨⟨e1, e2⟩, e3⟩ := e
    have e1 := Nat.eq_of_beq_eq_true e1
    have e2 := Nat.eq_of_beq_eq_true e2
    show cv v f = .int (cZ v (fldB (owI k).1 (owI k).2))
    rw [e1, e2, hf]
    rcases f with z | k' | n' | k' | r | k'
    · rfl
    · rfl
    · cases e3
    · cases e3
    · cases e3
    · cases e3
  · cases e
  · simp only [chkF, Bool.and_eq_true] at e
    obtain ⟨⟨e1, e2⟩, e3⟩ := e
    have e1 := Nat.eq_of_beq_eq_true e1
    have e2 := Nat.eq_of_beq_eq_true e2
    show cv v f = .long (cQ v (fldB (owJ k).1 (owJ k).2))
    rw [e1, e2, hf]
    rcases f with z | k' | n' | k' | r | k'
    · cases e3
    · cases e3
    · rfl
    · rfl
    · cases e3
    · cases e3
  · have e : f = aR r := of_decide_eq_true e
    rw [e]
    rfl
  · cases e
theorem cvs_pic {c : Nat} : ∀ (fs hs : List AV) (i : Nat), chkFs c i fs hs = true → (∀ j f, fs[j]? = some f → fldB c (i + j) = f) → fs.map (cv v) = hs.map (cv (vS (vA v) (pic v)))
  | [], [], _, _, _ => rfl
  | [], _ :: _, _, h, _ => by cases h
  | _ :: _, [], _, h, _ => by cases h
  | f :: fs, h :: hs, i, e, g => by
    replace e : (chkF c i f h && chkFs c (i + 1) fs hs) = true := e
    rw [Bool.and_eq_true] at e
    rw [List.map_cons, List.map_cons, cv_pic e.1 (g 0 f rfl), cvs_pic fs hs (i + 1) e.2 (fun j x hx => by
      have := g (j + 1) x hx
      rw [← this]
      congr 1
      omega)]
theorem cR_pic {a : AV} (h : isRR a = true) : cR v a = cR (vS (vA v) (pic v)) a := by
  rcases a with z | k' | n' | k' | r | k'
  · rfl
  · rfl
  · rfl
  · rfl
  · rfl
  · cases h
theorem cC_pic {i : Nat} (hi : i < 518) : cC v dT (cB0 i) = cC (vS (vA v) (pic v)) dT (bsS i) := by
  have h := List.all_eq_true.mp chkP_all i (List.mem_range.mpr hi)
  unfold chkP at h
  cases hb : cB0 i with
  | inr q =>
    obtain ⟨ci, fs⟩ := q
    cases hs : bsS i with
    | inl q' =>
      rw [hb, hs] at h
      rcases q' with ⟨t', n', (l' | ⟨lo, hh, a⟩)⟩ <;> cases h
    | inr q' =>
      obtain ⟨ci', fs'⟩ := q'
      rw [hb, hs] at h
      replace h : (Nat.beq ci ci' && chkFs i 0 fs fs') = true := h
      rw [Bool.and_eq_true] at h
      have e1 := Nat.eq_of_beq_eq_true h.1
      show Sum.inr (ci, fs.map (cv v)) = Sum.inr (ci', fs'.map _)
      rw [e1, cvs_pic fs fs' 0 h.2 (fun j f hf => by
        unfold fldB
        rw [hb]
        show fs.getD (0 + j) (aI 0) = f
        rw [Nat.zero_add, List.getD_eq_getElem?_getD, hf]
        rfl)]
  | inl q =>
    obtain ⟨t, n, b⟩ := q
    cases hs : bsS i with
    | inr q' =>
      obtain ⟨ci', fs'⟩ := q'
      rw [hb, hs] at h
      rcases b with l | e <;> cases h
    | inl q' =>
      obtain ⟨t', n', b'⟩ := q'
      rw [hb, hs] at h
      rcases b' with l' | ⟨lo, hh, a⟩
      · rcases b with l | e
        · replace h : (Nat.beq t t' && Nat.beq n n' && Nat.ble 3 t && qLV l l' && l.all isRR) = true := h
          simp only [Bool.and_eq_true] at h
          obtain ⟨⟨⟨⟨h1, h2⟩, h3⟩, h4⟩, h5⟩ := h
          have e1 := Nat.eq_of_beq_eq_true h1
          have e2 := Nat.eq_of_beq_eq_true h2
          have e3 := Nat.le_of_ble_eq_true h3
          have e4 := qLV_ok h4
          subst e1; subst e2; subst e4
          show Sum.inl (dT t, n, cB v t n (.inl l)) = Sum.inl (dT t, n, cB _ t n (.inl l))
          congr 3
          refine cB_ext (fun q => by omega) (fun q => by omega) (fun _ j _ => ?_)
          show cR v (l.getD j (aR none)) = cR _ (l.getD j (aR none))
          rcases getD_mem (l := l) (j := j) (d := aR none) with q | q
          · rw [q]; rfl
          · exact cR_pic (List.all_eq_true.mp h5 _ q)
        · cases h
      · replace h : (Nat.beq t t' && Nat.beq n n' && Nat.ble t 2 && Nat.beq (owA a) i) = true := by rcases b with l | e <;> exact h
        simp only [Bool.and_eq_true] at h
        obtain ⟨⟨⟨h1, h2⟩, h3⟩, h4⟩ := h
        have e1 := Nat.eq_of_beq_eq_true h1
        have e2 := Nat.eq_of_beq_eq_true h2
        have e3 := Nat.le_of_ble_eq_true h3
        have e4 := Nat.eq_of_beq_eq_true h4
        subst e1; subst e2
        show Sum.inl (dT t, n, cB v t n b) = Sum.inl (dT t, n, cB _ t n (.inr (lo, hh, a)))
        congr 3
        have hA : arrB (owA a) = b := by
          unfold arrB
          rw [e4, hb]
        refine cB_ext (fun _ j _ => ?_) (fun _ j _ => ?_) (fun q => by omega)
        · show cBz v b j = cBz v (arrB (owA a)) j
          rw [hA]
        · show cBq v b j = cBq v (arrB (owA a)) j
          rw [hA]
theorem cW_pic : cW v dT bsB (wH wH0) = Wd (vA v) dT (pic v) := by
  unfold Wd cW
  show (List.range 518).map _ = (List.range 518).map _ ++ []
  rw [List.append_nil]
  apply List.map_congr_left
  intro i hi
  show (vA v i, cC v dT (cB0 i)) = (vA v i, cC (vS (vA v) (pic v)) dT (bsS i))
  rw [cC_pic (List.mem_range.mp hi)]
def chkI (k : Nat) : Bool := match fldB (owI k).1 (owI k).2 with
  | .inl z => decide ((bI k).1 ≤ z) && decide (z ≤ (bI k).2) && decide (-2147483648 ≤ z) && decide (z ≤ 2147483647)
  | _ => false
theorem chkI_all : (List.range oIl.length).all chkI = true := by decide +kernel
theorem loI_len : loI.length ≤ oIl.length := by decide +kernel
theorem chkI_at (k : Nat) : chkI k = true := by
  by_cases h : k < oIl.length
  · exact List.all_eq_true.mp chkI_all k (List.mem_range.mpr h)
  · have e1 : owI k = (999, 0) := by
      unfold owI
      rw [List.getD_eq_getElem?_getD, List.getElem?_eq_none (by omega)]
      rfl
    have e2 : bI k = (-2147483648, 2147483647) := by
      unfold bI
      have := loI_len
      rw [List.getD_eq_getElem?_getD, List.getElem?_eq_none (by omega)]
      rfl
    unfold chkI
    rw [e1, e2]
    decide +kernel
theorem iI_pic {k : Nat} {z : Int} (h : fldB (owI k).1 (owI k).2 = aI z) (hz : rng z) : iI (pic v) k = z := by
  show (cZ v (fldB (owI k).1 (owI k).2)).toInt = z
  rw [h]
  exact zi hz
def chkZ (lo hi : Int) (a : AV) : Bool := match a with
  | .inl z => decide (lo ≤ z) && decide (z ≤ hi) && decide (-2147483648 ≤ z) && decide (z ≤ 2147483647)
  | _ => false
def chkA (a : Nat) : Bool := (decide ((bA a).1 ≤ -2147483648) && decide (2147483647 ≤ (bA a).2.1)) || (Nat.blt (owA a) 518 && match cB0 (owA a) with
  | .inl (t, n, .inr (lo, hi, _)) => !(Nat.beq t 1) && decide ((bA a).1 ≤ lo) && decide (hi ≤ (bA a).2.1) && Nat.ble (bA a).2.2 n
  | .inl (_, _, .inl l) => (List.range (bA a).2.2).all (fun j => chkZ (bA a).1 (bA a).2.1 (l.getD j (aI 0)))
  | _ => false)
theorem chkA_all : (List.range oAl.length).all chkA = true := by decide +kernel
theorem loA_len : loA.length ≤ oAl.length := by decide +kernel
theorem bd_pic (hok : okW bsB v wH0) : Bd (pic v) := by
  refine ⟨fun k => ?_, fun a j hj => ?_⟩
  · have h := chkI_at k
    unfold chkI at h
    cases hf : fldB (owI k).1 (owI k).2 with
    | inr q => rw [hf] at h; cases h
    | inl z =>
      rw [hf] at h
      simp only [Bool.and_eq_true, decide_eq_true_eq] at h
      rw [iI_pic hf ⟨h.1.2, h.2⟩]
      exact ⟨h.1.1.1, h.1.1.2⟩
  · by_cases ha : a < oAl.length
    · have h := List.all_eq_true.mp chkA_all a (List.mem_range.mpr ha)
      unfold chkA at h
      rw [Bool.or_eq_true] at h
      rcases h with h | h
      · simp only [Bool.and_eq_true, decide_eq_true_eq] at h
        have := rng_to (gC (pic v) a j)
        exact ⟨Int.le_trans h.1 this.1, Int.le_trans this.2 h.2⟩
      · rw [Bool.and_eq_true] at h
        obtain ⟨h0, h⟩ := h
        have h0 := Nat.blt_eq.mp h0
        have hc := hok.2.1 (owA a) h0
        replace hc : okC v (cB0 (owA a)) := hc
        have hA : gC (pic v) a j = cBz v (arrB (owA a)) j := rfl
        show (bA a).1 ≤ (gC (pic v) a j).toInt ∧ (gC (pic v) a j).toInt ≤ (bA a).2.1
        rw [hA]
        unfold arrB
        cases hb : cB0 (owA a) with
        | inr q => rw [hb] at h; cases h
        | inl q =>
          obtain ⟨t, n, b⟩ := q
          rw [hb] at h hc
          rcases b with l | ⟨lo, hi, c⟩
          · have h9 := List.all_eq_true.mp h j (List.mem_range.mpr hj)
            show (bA a).1 ≤ (cZ v (l.getD j (aI 0))).toInt ∧ (cZ v (l.getD j (aI 0))).toInt ≤ (bA a).2.1
            generalize l.getD j (aI 0) = x at h9 ⊢
            rcases x with z | q
            · simp only [chkZ, Bool.and_eq_true, decide_eq_true_eq] at h9
              show (bA a).1 ≤ (Int32.ofInt z).toInt ∧ (Int32.ofInt z).toInt ≤ (bA a).2.1
              rw [zi ⟨h9.1.2, h9.2⟩]
              exact ⟨h9.1.1.1, h9.1.1.2⟩
            · cases h9
          · simp only [Bool.and_eq_true, decide_eq_true_eq] at h
            obtain ⟨⟨⟨h1, h2⟩, h3⟩, h4⟩ := h
            have h4 := Nat.le_of_ble_eq_true h4
            have ht : t ≠ 1 := fun q => by rw [q] at h1; exact absurd h1 (by decide)
            have := hc ht j (by omega)
            exact ⟨Int.le_trans h2 this.1, Int.le_trans this.2 h3⟩
    · have e : (bA a).2.2 = 0 := by
        unfold bA
        have := loA_len
        rw [List.getD_eq_getElem?_getD, List.getElem?_eq_none (by omega)]
        rfl
      omega
theorem f89 : fldB (owI 89).1 (owI 89).2 = aI 1 := by decide +kernel
theorem f12 : fldB (owI 12).1 (owI 12).2 = aI 0 := by decide +kernel
theorem g0 : fldB (owI 0).1 (owI 0).2 = aI 0 := by decide +kernel
theorem g74 : fldB (owI 74).1 (owI 74).2 = aI 0 := by decide +kernel
theorem g9 : fldB (owI 9).1 (owI 9).2 = aI 0 := by decide +kernel
theorem g90 : fldB (owI 90).1 (owI 90).2 = aI 0 := by decide +kernel
theorem g20 : fldB (owI 20).1 (owI 20).2 = aI 0 := by decide +kernel
theorem g98 : fldB (owI 98).1 (owI 98).2 = aI 0 := by decide +kernel
theorem g70 : fldB (owI 70).1 (owI 70).2 = aI 0 := by decide +kernel
theorem g71 : fldB (owI 71).1 (owI 71).2 = aI 0 := by decide +kernel
theorem g107 : fldB (owI 107).1 (owI 107).2 = aI 0 := by decide +kernel
def chS (a t n c : Nat) : Bool := match cB0 (owA a) with
  | .inl (t', n', .inr (lo, hi, c')) => Nat.beq t' t && Nat.beq n' n && decide (lo = 0) && decide (hi = 0) && Nat.beq c' c
  | _ => false
theorem chS_ok {a t n c : Nat} (h : chS a t n c = true) : cB0 (owA a) = .inl (t, n, .inr (0, 0, c)) := by
  unfold chS at h
  cases e : cB0 (owA a) with
  | inr q => rw [e] at h; cases h
  | inl q =>
    obtain ⟨t', n', b⟩ := q
    rcases b with l | ⟨lo, hi, c'⟩
    · rw [e] at h; cases h
    · rw [e] at h
      simp only [Bool.and_eq_true, decide_eq_true_eq] at h
      obtain ⟨⟨⟨⟨h1, h2⟩, h3⟩, h4⟩, h5⟩ := h
      rw [Nat.eq_of_beq_eq_true h1, Nat.eq_of_beq_eq_true h2, h3, h4, Nat.eq_of_beq_eq_true h5]
theorem iC_sym {a j n t c : Nat} (hok : okW bsB v wH0) (h0 : owA a < 518) (hb : cB0 (owA a) = .inl (t, n, .inr (0, 0, c))) (ht : t ≠ 1) (hj : j < n) : iC (pic v) a j = 0 := by
  have hc : okC v (cB0 (owA a)) := hok.2.1 (owA a) h0
  rw [hb] at hc
  have h9 := hc ht j hj
  have e : arrB (owA a) = .inr (0, 0, c) := by unfold arrB; rw [hb]
  show (cBz v (arrB (owA a)) j).toInt = 0
  rw [e]
  have h8 : (0 : Int) ≤ (cBz v (.inr (0, 0, c)) j).toInt ∧ (cBz v (.inr (0, 0, c)) j).toInt ≤ 0 := h9
  omega
theorem gz_fd : cB0 (owA 157) = .inl (0, 200, .inr (0, 0, 157)) := chS_ok (by decide +kernel)
theorem gz_by : cB0 (owA 0) = .inl (0, 200, .inr (0, 0, 0)) := chS_ok (by decide +kernel)
theorem feq0 (hok : okW bsB v wH0) : FEQ (pic v) := fun j hj => by rw [iC_sym hok (by decide +kernel) gz_fd (by decide) hj, iC_sym hok (by decide +kernel) gz_by (by decide) hj]
theorem gq_8 : cB0 (owA 8) = .inl (0, 288, .inr (0, 0, 8)) := chS_ok (by decide +kernel)
theorem gq_11 : cB0 (owA 11) = .inl (0, 288, .inr (0, 0, 11)) := chS_ok (by decide +kernel)
theorem gq_9 : cB0 (owA 9) = .inl (0, 12, .inr (0, 0, 9)) := chS_ok (by decide +kernel)
theorem gq_10 : cB0 (owA 10) = .inl (0, 12, .inr (0, 0, 10)) := chS_ok (by decide +kernel)
theorem gq_163 : cB0 (owA 163) = .inl (0, 12, .inr (0, 0, 163)) := chS_ok (by decide +kernel)
theorem gq_164 : cB0 (owA 164) = .inl (0, 12, .inr (0, 0, 164)) := chS_ok (by decide +kernel)
theorem gq_12 : cB0 (owA 12) = .inl (0, 12, .inr (0, 0, 12)) := chS_ok (by decide +kernel)
theorem gq_190 : cB0 (owA 190) = .inl (0, 24, .inr (0, 0, 190)) := chS_ok (by decide +kernel)
theorem gq_191 : cB0 (owA 191) = .inl (0, 24, .inr (0, 0, 191)) := chS_ok (by decide +kernel)
theorem gq_192 : cB0 (owA 192) = .inl (0, 24, .inr (0, 0, 192)) := chS_ok (by decide +kernel)
theorem gq_193 : cB0 (owA 193) = .inl (0, 24, .inr (0, 0, 193)) := chS_ok (by decide +kernel)
theorem gq_194 : cB0 (owA 194) = .inl (0, 24, .inr (0, 0, 194)) := chS_ok (by decide +kernel)
theorem gq_195 : cB0 (owA 195) = .inl (0, 24, .inr (0, 0, 195)) := chS_ok (by decide +kernel)
theorem gq_196 : cB0 (owA 196) = .inl (0, 24, .inr (0, 0, 196)) := chS_ok (by decide +kernel)
theorem gq_197 : cB0 (owA 197) = .inl (0, 24, .inr (0, 0, 197)) := chS_ok (by decide +kernel)
theorem gq_198 : cB0 (owA 198) = .inl (0, 24, .inr (0, 0, 198)) := chS_ok (by decide +kernel)
theorem gq_199 : cB0 (owA 199) = .inl (0, 24, .inr (0, 0, 199)) := chS_ok (by decide +kernel)
theorem gq_200 : cB0 (owA 200) = .inl (0, 24, .inr (0, 0, 200)) := chS_ok (by decide +kernel)
theorem gq_201 : cB0 (owA 201) = .inl (0, 24, .inr (0, 0, 201)) := chS_ok (by decide +kernel)
theorem mqj0 (hok : okW bsB v wH0) : MQJ (pic v) := by
  refine mqj_0 (fun j hj => iC_sym hok (by decide +kernel) gq_8 (by decide) hj) (fun j hj => iC_sym hok (by decide +kernel) gq_11 (by decide) hj) (fun j hj => iC_sym hok (by decide +kernel) gq_12 (by decide) hj) (fun r j hr hj => ?_) (fun j hj => by rw [iC_sym hok (by decide +kernel) gq_9 (by decide) hj, iC_sym hok (by decide +kernel) gq_163 (by decide) hj]) (fun j hj => by rw [iC_sym hok (by decide +kernel) gq_10 (by decide) hj, iC_sym hok (by decide +kernel) gq_164 (by decide) hj])
  rcases (show r = 0 ∨ r = 1 ∨ r = 2 ∨ r = 3 ∨ r = 4 ∨ r = 5 ∨ r = 6 ∨ r = 7 ∨ r = 8 ∨ r = 9 ∨ r = 10 ∨ r = 11 by omega) with rfl | rfl | rfl | rfl | rfl | rfl | rfl | rfl | rfl | rfl | rfl | rfl
  · exact iC_sym hok (by decide +kernel) gq_190 (by decide) hj
  · exact iC_sym hok (by decide +kernel) gq_191 (by decide) hj
  · exact iC_sym hok (by decide +kernel) gq_192 (by decide) hj
  · exact iC_sym hok (by decide +kernel) gq_193 (by decide) hj
  · exact iC_sym hok (by decide +kernel) gq_194 (by decide) hj
  · exact iC_sym hok (by decide +kernel) gq_195 (by decide) hj
  · exact iC_sym hok (by decide +kernel) gq_196 (by decide) hj
  · exact iC_sym hok (by decide +kernel) gq_197 (by decide) hj
  · exact iC_sym hok (by decide +kernel) gq_198 (by decide) hj
  · exact iC_sym hok (by decide +kernel) gq_199 (by decide) hj
  · exact iC_sym hok (by decide +kernel) gq_200 (by decide) hj
  · exact iC_sym hok (by decide +kernel) gq_201 (by decide) hj
theorem gq_14 : cB0 (owA 14) = .inl (0, 24, .inr (0, 0, 14)) := chS_ok (by decide +kernel)
theorem g10 : fldB (owI 10).1 (owI 10).2 = aI 0 := by decide +kernel
theorem g13 : fldB (owI 13).1 (owI 13).2 = aI (-1) := by decide +kernel
theorem g85 : fldB (owI 85).1 (owI 85).2 = aI (-1) := by decide +kernel
theorem arj0 (hok : okW bsB v wH0) : ARJ (pic v) := by
  have c0 : iI (pic v) 9 = 0 := iI_pic g9 (by decide)
  have s0 : iI (pic v) 90 = 0 := iI_pic g90 (by decide)
  have k0 : iI (pic v) 10 = 0 := iI_pic g10 (by decide)
  refine ⟨⟨by rw [c0]; decide, fun x hx => by rw [c0] at hx; omega⟩, ⟨by rw [s0]; decide, fun x c hx _ => by rw [s0] at hx; omega⟩, mqj0 hok, fun x k _ x1 x2 k0 k1 => iC_sym hok (by decide +kernel) gq_8 (by decide) (by omega), fun q hq => ?_, ⟨by rw [c0]; decide, fun x hx => by rw [c0] at hx; omega⟩, ⟨by rw [k0]; decide, fun H _ => by rw [k0, c0]; rfl⟩, ⟨ldD, Or.inl ⟨iI_pic g13 (by decide), rfl⟩, Or.inl ⟨iI_pic g85 (by decide), rfl⟩, fun _ => noc_d⟩⟩
  rw [iC_sym hok (by decide +kernel) gq_14 (by decide) (by omega), c0]
  exact ⟨by omega, fun j hj => absurd hj (by omega)⟩
theorem iC_pic {a j : Nat} {l : List AV} {z : Int} (h : arrB (owA a) = .inl l) (hl : l.getD j (aI 0) = aI z) (hz : rng z) : iC (pic v) a j = z := by
  show (cBz v (arrB (owA a)) j).toInt = z
  rw [h]
  show (cZ v (l.getD j (aI 0))).toInt = z
  rw [hl]
  exact zi hz
def chA : List AV → List AV → Bool
  | [], [] => true
  | x :: r, y :: q => decide (x = y) && chA r q
  | _, _ => false
theorem chA_ok : ∀ {l m : List AV}, chA l m = true → l = m
  | [], [], _ => rfl
  | x :: r, y :: q, h => by
    replace h : (decide (x = y) && chA r q) = true := h
    rw [Bool.and_eq_true] at h
    rw [of_decide_eq_true h.1, chA_ok h.2]
  | [], _ :: _, h => by cases h
  | _ :: _, [], h => by cases h
def chB (a : Nat) (l : List AV) : Bool := match arrB (owA a) with
  | .inl m => chA m l
  | .inr _ => false
theorem chB_ok {a : Nat} {l : List AV} (h : chB a l = true) : arrB (owA a) = .inl l := by
  unfold chB at h
  cases e : arrB (owA a) with
  | inl m =>
    rw [e] at h
    replace h : chA m l = true := h
    rw [chA_ok h]
  | inr q => rw [e] at h; cases h
theorem ga24 : arrB (owA 24) = .inl [aI 40, aI 40, aI 40, aI 40, aI 40, aI 40, aI 40, aI 40] := chB_ok (by decide +kernel)
theorem ga229 : arrB (owA 229) = .inl [aI 40, aI 40, aI 40, aI 40, aI 40, aI 40, aI 40, aI 40] := chB_ok (by decide +kernel)
theorem alj0 : AEQ 24 229 8 (pic v) := fun j hj => by
  rcases (show j = 0 ∨ j = 1 ∨ j = 2 ∨ j = 3 ∨ j = 4 ∨ j = 5 ∨ j = 6 ∨ j = 7 by omega) with rfl | rfl | rfl | rfl | rfl | rfl | rfl | rfl
  · rw [iC_pic ga24 rfl (by decide), iC_pic ga229 rfl (by decide)]
  · rw [iC_pic ga24 rfl (by decide), iC_pic ga229 rfl (by decide)]
  · rw [iC_pic ga24 rfl (by decide), iC_pic ga229 rfl (by decide)]
  · rw [iC_pic ga24 rfl (by decide), iC_pic ga229 rfl (by decide)]
  · rw [iC_pic ga24 rfl (by decide), iC_pic ga229 rfl (by decide)]
  · rw [iC_pic ga24 rfl (by decide), iC_pic ga229 rfl (by decide)]
  · rw [iC_pic ga24 rfl (by decide), iC_pic ga229 rfl (by decide)]
  · rw [iC_pic ga24 rfl (by decide), iC_pic ga229 rfl (by decide)]
theorem gq_21 : cB0 (owA 21) = .inl (0, 128, .inr (0, 0, 21)) := chS_ok (by decide +kernel)
theorem gq_228 : cB0 (owA 228) = .inl (0, 128, .inr (0, 0, 228)) := chS_ok (by decide +kernel)
theorem gl_22 : arrB (owA 22) = .inl [aJ 18446744073709551615, aJ 0, aJ 0, aJ 0, aJ 0, aJ 0, aJ 0, aJ 0] := chB_ok (by decide +kernel)
theorem gl_23 : arrB (owA 23) = .inl [aJ 18446744073709551615, aJ 0, aJ 0, aJ 0, aJ 0, aJ 0, aJ 0, aJ 0] := chB_ok (by decide +kernel)
theorem bJ_0 (i : Nat) : ¬ bJ (lN 0) i := by
  unfold bJ
  show ¬ ((0#64).getLsbD i = true)
  rw [BitVec.getLsbD_zero]
  decide
theorem bm1 : ∀ i : Fin 64, (18446744073709551615#64).getLsbD i.val = true := by decide
theorem bJ_1 {i : Nat} (h : i < 64) : bJ (lN 18446744073709551615) i := by
  unfold bJ
  exact bm1 ⟨i, h⟩
theorem ptj0 (hok : okW bsB v wH0) : PTJ (pic v) := by
  have m0 : iI (pic v) 20 = 0 := iI_pic g20 (by decide)
  refine ⟨fun p d hp hd => ?_, fun j hj => by rw [iC_sym hok (by decide +kernel) gq_21 (by decide) hj, iC_sym hok (by decide +kernel) gq_228 (by decide) hj], alj0, ⟨by rw [m0]; decide, fun k j hk _ => by rw [m0] at hk; omega⟩⟩
  have g : gD (pic v) (22 + d / 64) p = cQ v ([aJ 18446744073709551615, aJ 0, aJ 0, aJ 0, aJ 0, aJ 0, aJ 0, aJ 0].getD p (aJ 0)) := by
    by_cases c : d < 64
    · rw [show d / 64 = 0 by omega]
      show cBq v (arrB (owA 22)) p = _
      rw [gl_22]; rfl
    · rw [show d / 64 = 1 by omega]
      show cBq v (arrB (owA 23)) p = _
      rw [gl_23]; rfl
  rw [g, iC_sym hok (by decide +kernel) gq_21 (by decide) hd]
  rcases (show p = 0 ∨ p = 1 ∨ p = 2 ∨ p = 3 ∨ p = 4 ∨ p = 5 ∨ p = 6 ∨ p = 7 by omega) with rfl | rfl | rfl | rfl | rfl | rfl | rfl | rfl
  · exact ⟨fun _ => rfl, fun _ => bJ_1 (by omega)⟩
  · exact ⟨fun q => absurd q (bJ_0 _), fun q => absurd q (by decide)⟩
  · exact ⟨fun q => absurd q (bJ_0 _), fun q => absurd q (by decide)⟩
  · exact ⟨fun q => absurd q (bJ_0 _), fun q => absurd q (by decide)⟩
  · exact ⟨fun q => absurd q (bJ_0 _), fun q => absurd q (by decide)⟩
  · exact ⟨fun q => absurd q (bJ_0 _), fun q => absurd q (by decide)⟩
  · exact ⟨fun q => absurd q (bJ_0 _), fun q => absurd q (by decide)⟩
  · exact ⟨fun q => absurd q (bJ_0 _), fun q => absurd q (by decide)⟩
theorem f90 : fldB (owI 90).1 (owI 90).2 = aI 0 := by decide +kernel
end PC
/-! Texts and statics at the start -/
section TS
variable {s : State} {a0 : Array Value}
abbrev tmV (i : Nat) : Term := .field (.string RX7 i) "java/lang/String" "value" "[B"
def strW (i : Nat) (bs : List Int) : List Cond := Cond.exactly (.string RX7 i) "java/lang/String" :: Cond.eq (.field (.string RX7 i) "java/lang/String" "coder" "B") (.int (Int32.ofInt 0)) :: Cond.arrayOf (tmV i) .byte :: Cond.eq (.length (tmV i)) (.int (Int32.ofNat bs.length)) :: (List.range bs.length).map (fun j => Cond.eq (.elem (tmV i) (.int (Int32.ofNat j))) (.int (Int32.ofInt (bs.getD j 0))))
def sIx : Cond → Nat
  | .exactly (.string _ i) _ => i + 1
  | _ => 0
def preG : List Cond → List Cond → Bool
  | [], _ => true
  | _ :: _, [] => false
  | w :: ws, c :: l => decide (w = c) && preG ws l
theorem preG_ok : ∀ (ws l : List Cond), preG ws l = true → ∀ w ∈ ws, w ∈ l
  | [], _ => fun _ _ hw => absurd hw List.not_mem_nil
  | _ :: _, [] => fun h _ _ => absurd h Bool.false_ne_true
  | v :: ws, c :: l => fun h w hw => by
    have h1 : (decide (v = c) && preG ws l) = true := h
    rw [Bool.and_eq_true] at h1
    obtain ⟨e, h2⟩ := h1
    rcases List.mem_cons.mp hw with q | q
    · rw [q, of_decide_eq_true e]; exact List.mem_cons_self
    · exact List.mem_cons_of_mem _ (preG_ok ws l h2 w q)
def srG (i : Nat) (ws : List Cond) : List Cond → Bool
  | [] => false
  | c :: l => (Nat.beq (sIx c) i && preG ws (c :: l)) || srG i ws l
theorem srG_ok (i : Nat) (ws : List Cond) : ∀ l : List Cond, srG i ws l = true → ∀ w ∈ ws, w ∈ l
  | [] => fun h _ _ => absurd h Bool.false_ne_true
  | c :: l => fun h w hw => by
    have h1 : ((Nat.beq (sIx c) i && preG ws (c :: l)) || srG i ws l) = true := h
    rw [Bool.or_eq_true, Bool.and_eq_true] at h1
    rcases h1 with q | q
    · exact preG_ok ws _ q.2 w hw
    · exact List.mem_cons_of_mem _ (srG_ok i ws l q w hw)
def chkG (ws : List Cond) : Bool := srG (sIx (ws.headD (Cond.count 0))) ws gvL || ws.all (fun w => decide (w ∈ gvL))
theorem chkG_ok {ws : List Cond} (h : chkG ws = true) : ∀ w ∈ ws, w ∈ gvL := fun w hw => by
  have h1 : (srG (sIx (ws.headD (Cond.count 0))) ws gvL || ws.all (fun w => decide (w ∈ gvL))) = true := h
  rw [Bool.or_eq_true] at h1
  rcases h1 with q | q
  · exact srG_ok _ ws gvL q w hw
  · exact of_decide_eq_true (List.all_eq_true.mp q w hw)
theorem hA_of (s : State) : ∀ a : Nat, a < s.heap.size → ¬ mb_F s a := fun _ h q => Nat.not_lt.mpr q h
theorem str_at (hts : ∀ w ∈ lw_tbl, w.before a0 s = true) (hgv : ∀ w ∈ gvL, w.before a0 s = true) {i : Nat} {t : String} {bs : List Int} (hW : chkG (strW i bs) = true) (hl : Cond.stringRef RX7 i t ∈ lw_tbl) (hn : bs.length ≤ 6) (hb : (bs.all fun b => decide (0 ≤ b) && decide (b ≤ 127)) = true) : ∃ (t : String) (q : Nat), vk_R RX7 i t q s ∧ StrA s q bs.length := by
  have hw := fun w h => hgv w (chkG_ok hW w h)
  have h0 : (Cond.exactly (.string RX7 i) "java/lang/String").before a0 s = true := hw _ List.mem_cons_self
  obtain ⟨a, c, cA, kA, q1, q2, q3, q4, q5, q6, -⟩ := Cond.exactly_spec h0
  have hlen := va_eqt (hw (Cond.eq (.length (tmV i)) (.int (Int32.ofNat bs.length))) (List.mem_cons_of_mem _ (List.mem_cons_of_mem _ (List.mem_cons_of_mem _ List.mem_cons_self))))
  obtain ⟨v, ht, hT⟩ := va_Tof (ty := .byte) (f := fun j => .int (Int32.ofInt (bs.getD j 0))) (A := mb_F s) (show bs.length < 2 ^ 31 by omega) (hw (Cond.arrayOf (tmV i) .byte) (List.mem_cons_of_mem _ (List.mem_cons_of_mem _ List.mem_cons_self))) hlen (fun j hj => va_eqt (hw _ (List.mem_cons_of_mem _ (List.mem_cons_of_mem _ (List.mem_cons_of_mem _ (List.mem_cons_of_mem _ (List.mem_map.mpr ⟨j, List.mem_range.mpr hj, rfl⟩))))))) (hA_of s)
  refine ⟨t, a, vk_R.of (hts _ hl) q1, v, fun j => bs.getD j 0, hn, fun j => ?_, ⟨cA, q3, q5, by rw [q6]; exact q2, hA_of s a (Array.getElem?_eq_some_iff.mp q3).1⟩, vk_OFof q1 (va_eqt (hw _ (List.mem_cons_of_mem _ List.mem_cons_self))) (hA_of s), vk_OFof q1 ht (hA_of s), hT⟩
  show 0 ≤ bs.getD j 0 ∧ bs.getD j 0 ≤ 127
  rcases getD_mem (l := bs) (j := j) (d := 0) with q | q
  · rw [q]; decide
  · have := List.all_eq_true.mp hb _ q
    simp only [Bool.and_eq_true, decide_eq_true_eq] at this
    exact this
theorem gs_74 : chkG (strW 74 [108, 111, 97, 100]) = true := by decide +kernel
theorem gs_80 : chkG (strW 80 [106, 111, 105, 110]) = true := by decide +kernel
theorem gs_101 : chkG (strW 101 [111, 114]) = true := by decide +kernel
theorem gs_109 : chkG (strW 109 [97, 110, 100]) = true := by decide +kernel
theorem gs_111 : chkG (strW 111 [110, 111, 116]) = true := by decide +kernel
theorem gs_125 : chkG (strW 125 [108, 101, 97, 115, 116]) = true := by decide +kernel
theorem gs_127 : chkG (strW 127 [109, 111, 115, 116]) = true := by decide +kernel
theorem gs_136 : chkG (strW 136 [119, 97, 121, 115]) = true := by decide +kernel
theorem gs_138 : chkG (strW 138 [99, 114, 111, 115, 115]) = true := by decide +kernel
theorem gs_140 : chkG (strW 140 [111, 118, 101, 114]) = true := by decide +kernel
theorem gs_142 : chkG (strW 142 [99, 108, 105, 109, 98]) = true := by decide +kernel
theorem gs_144 : chkG (strW 144 [99, 101, 108, 108, 115]) = true := by decide +kernel
theorem gs_146 : chkG (strW 146 [108, 111, 119]) = true := by decide +kernel
theorem gs_148 : chkG (strW 148 [112, 105, 101, 99, 101, 115]) = true := by decide +kernel
theorem tx_ok (hts : ∀ w ∈ lw_tbl, w.before a0 s = true) (hgv : ∀ w ∈ gvL, w.before a0 s = true) : TXs0 s := by
  intro p hp
  simp only [txL, List.mem_cons, List.not_mem_nil, or_false] at hp
  rcases hp with e | e | e | e | e | e | e | e | e | e | e | e | e | e
  · subst e; exact str_at hts hgv (t := "load") gs_74 (chkL_ok (p := (5, 5)) (by decide +kernel)) (by decide) (by decide)
  · subst e; exact str_at hts hgv (t := "join") gs_80 (chkL_ok (p := (5, 58)) (by decide +kernel)) (by decide) (by decide)
  · subst e; exact str_at hts hgv (t := "or") gs_101 (chkL_ok (p := (5, 116)) (by decide +kernel)) (by decide) (by decide)
  · subst e; exact str_at hts hgv (t := "and") gs_109 (chkL_ok (p := (5, 115)) (by decide +kernel)) (by decide) (by decide)
  · subst e; exact str_at hts hgv (t := "not") gs_111 (chkL_ok (p := (5, 114)) (by decide +kernel)) (by decide) (by decide)
  · subst e; exact str_at hts hgv (t := "least") gs_125 (chkL_ok (p := (5, 85)) (by decide +kernel)) (by decide) (by decide)
  · subst e; exact str_at hts hgv (t := "most") gs_127 (chkL_ok (p := (5, 86)) (by decide +kernel)) (by decide) (by decide)
  · subst e; exact str_at hts hgv (t := "ways") gs_136 (chkL_ok (p := (5, 95)) (by decide +kernel)) (by decide) (by decide)
  · subst e; exact str_at hts hgv (t := "cross") gs_138 (chkL_ok (p := (5, 96)) (by decide +kernel)) (by decide) (by decide)
  · subst e; exact str_at hts hgv (t := "over") gs_140 (chkL_ok (p := (5, 97)) (by decide +kernel)) (by decide) (by decide)
  · subst e; exact str_at hts hgv (t := "climb") gs_142 (chkL_ok (p := (5, 98)) (by decide +kernel)) (by decide) (by decide)
  · subst e; exact str_at hts hgv (t := "cells") gs_144 (chkL_ok (p := (5, 99)) (by decide +kernel)) (by decide) (by decide)
  · subst e; exact str_at hts hgv (t := "low") gs_146 (chkL_ok (p := (5, 100)) (by decide +kernel)) (by decide) (by decide)
  · subst e; exact str_at hts hgv (t := "pieces") gs_148 (chkL_ok (p := (5, 101)) (by decide +kernel)) (by decide) (by decide)
theorem gv_com : Cond.eq (.static "java/lang/String" "COMPACT_STRINGS" "Z") (.int (Int32.ofInt 1)) ∈ gvL := by decide +kernel
theorem gv_sio : Cond.isRef (.static "jdk/internal/util/Preconditions" "SIOOBE_FORMATTER" "Ljava/util/function/BiFunction;") ∈ gvL := by decide +kernel
theorem sf_ok (hts : ∀ w ∈ lw_tbl, w.before a0 s = true) (hgv : ∀ w ∈ gvL, w.before a0 s = true) : SF0 s :=
  ⟨va_Zof (hts _ (chkL_ok (p := (5, 19)) (by decide +kernel))) (hts _ (chkL_ok (p := (1, 21)) (by decide +kernel))) (va_eqi (hgv _ gv_com)) (hA_of s), va_Zqof (hts _ (chkL_ok (p := (5, 35)) (by decide +kernel))) (hts _ (chkL_ok (p := (1, 23)) (by decide +kernel))) (hgv _ gv_sio) (hA_of s)⟩
abbrev tmR : Term := .static "SkyCuts$Storm" "RISING" "[I"
def risW : List Cond := Cond.arrayOf tmR .int :: Cond.eq (.length tmR) (.int (Int32.ofNat 6)) :: (List.range 6).map (fun j => Cond.eq (.elem tmR (.int (Int32.ofNat j))) (.int (([5, 3, 1, 0, 2, 4] : List Int32).getD j 0)))
theorem gv_ris : chkG risW = true := by decide +kernel
theorem rs_ok (hts : ∀ w ∈ lw_tbl, w.before a0 s = true) (hgv : ∀ w ∈ gvL, w.before a0 s = true) : RS0 s := by
  have hw := fun w h => hgv w (chkG_ok gv_ris w h)
  obtain ⟨t, ht, hT⟩ := va_Tof (ty := .int) (N := 6) (f := fun j => .int (([5, 3, 1, 0, 2, 4] : List Int32).getD j 0)) (A := mb_F s) (by decide) (hw (Cond.arrayOf tmR .int) List.mem_cons_self) (va_eqt (hw (Cond.eq (.length tmR) (.int (Int32.ofNat 6))) (List.mem_cons_of_mem _ List.mem_cons_self))) (fun j hj => va_eqt (hw _ (List.mem_cons_of_mem _ (List.mem_cons_of_mem _ (List.mem_map.mpr ⟨j, List.mem_range.mpr hj, rfl⟩))))) (hA_of s)
  exact ⟨t, va_Zof (hts _ (chkL_ok (p := (7, 150)) (by decide +kernel))) (hts _ (chkL_ok (p := (1, 12)) (by decide +kernel))) ht (hA_of s), hT⟩
end TS
section TW
variable {s : State} {a0 : Array Value}
theorem map_gd : ∀ (L : List Nat) (j : Nat), (L.map fun b : Nat => (b : Int)).getD j 0 = ((L.getD j 0 : Nat) : Int)
  | [], j => rfl
  | c :: r, 0 => rfl
  | c :: r, j + 1 => map_gd r j
theorem str_atL (hts : ∀ w ∈ lw_tbl, w.before a0 s = true) (hgv : ∀ w ∈ gvL, w.before a0 s = true) {i : Nat} {t : String} {L : List Nat} {bs : List Int} (eL : bs = L.map fun b : Nat => (b : Int)) (hW : chkG (strW i bs) = true) (hl : Cond.stringRef RX7 i t ∈ lw_tbl) (hn : bs.length ≤ 6) : ∃ (t : String) (q : Nat), vk_R RX7 i t q s ∧ StrL s q L := by
  have hw := fun w h => hgv w (chkG_ok hW w h)
  have h0 : (Cond.exactly (.string RX7 i) "java/lang/String").before a0 s = true := hw _ List.mem_cons_self
  obtain ⟨a, c, cA, kA, q1, q2, q3, q4, q5, q6, -⟩ := Cond.exactly_spec h0
  have hlen := va_eqt (hw (Cond.eq (.length (tmV i)) (.int (Int32.ofNat bs.length))) (List.mem_cons_of_mem _ (List.mem_cons_of_mem _ (List.mem_cons_of_mem _ List.mem_cons_self))))
  obtain ⟨v, ht, hT⟩ := va_Tof (ty := .byte) (f := fun j => .int (Int32.ofInt (bs.getD j 0))) (A := mb_F s) (show bs.length < 2 ^ 31 by omega) (hw (Cond.arrayOf (tmV i) .byte) (List.mem_cons_of_mem _ (List.mem_cons_of_mem _ List.mem_cons_self))) hlen (fun j hj => va_eqt (hw _ (List.mem_cons_of_mem _ (List.mem_cons_of_mem _ (List.mem_cons_of_mem _ (List.mem_cons_of_mem _ (List.mem_map.mpr ⟨j, List.mem_range.mpr hj, rfl⟩))))))) (hA_of s)
  subst eL
  rw [List.length_map] at hT
  have e9 : (fun j => Value.int (Int32.ofInt ((L.map fun b : Nat => (b : Int)).getD j 0))) = fun j => Value.int (Int32.ofInt ((L.getD j 0 : Nat) : Int)) := by
    funext j
    rw [map_gd]
  rw [e9] at hT
  exact ⟨t, a, vk_R.of (hts _ hl) q1, v, ⟨cA, q3, q5, by rw [q6]; exact q2, hA_of s a (Array.getElem?_eq_some_iff.mp q3).1⟩, vk_OFof q1 (va_eqt (hw _ (List.mem_cons_of_mem _ List.mem_cons_self))) (hA_of s), vk_OFof q1 ht (hA_of s), hT⟩
theorem tw_ok (hts : ∀ w ∈ lw_tbl, w.before a0 s = true) (hgv : ∀ w ∈ gvL, w.before a0 s = true) : TXw0 s := by
  intro p hp
  simp only [txW, List.mem_cons, List.not_mem_nil, or_false] at hp
  rcases hp with e | e | e | e | e | e | e | e | e | e | e | e | e | e
  · subst e; exact str_atL hts hgv (t := "load") (bs := [108, 111, 97, 100]) rfl gs_74 (chkL_ok (p := (5, 5)) (by decide +kernel)) (by decide)
  · subst e; exact str_atL hts hgv (t := "join") (bs := [106, 111, 105, 110]) rfl gs_80 (chkL_ok (p := (5, 58)) (by decide +kernel)) (by decide)
  · subst e; exact str_atL hts hgv (t := "or") (bs := [111, 114]) rfl gs_101 (chkL_ok (p := (5, 116)) (by decide +kernel)) (by decide)
  · subst e; exact str_atL hts hgv (t := "and") (bs := [97, 110, 100]) rfl gs_109 (chkL_ok (p := (5, 115)) (by decide +kernel)) (by decide)
  · subst e; exact str_atL hts hgv (t := "not") (bs := [110, 111, 116]) rfl gs_111 (chkL_ok (p := (5, 114)) (by decide +kernel)) (by decide)
  · subst e; exact str_atL hts hgv (t := "least") (bs := [108, 101, 97, 115, 116]) rfl gs_125 (chkL_ok (p := (5, 85)) (by decide +kernel)) (by decide)
  · subst e; exact str_atL hts hgv (t := "most") (bs := [109, 111, 115, 116]) rfl gs_127 (chkL_ok (p := (5, 86)) (by decide +kernel)) (by decide)
  · subst e; exact str_atL hts hgv (t := "ways") (bs := [119, 97, 121, 115]) rfl gs_136 (chkL_ok (p := (5, 95)) (by decide +kernel)) (by decide)
  · subst e; exact str_atL hts hgv (t := "cross") (bs := [99, 114, 111, 115, 115]) rfl gs_138 (chkL_ok (p := (5, 96)) (by decide +kernel)) (by decide)
  · subst e; exact str_atL hts hgv (t := "over") (bs := [111, 118, 101, 114]) rfl gs_140 (chkL_ok (p := (5, 97)) (by decide +kernel)) (by decide)
  · subst e; exact str_atL hts hgv (t := "climb") (bs := [99, 108, 105, 109, 98]) rfl gs_142 (chkL_ok (p := (5, 98)) (by decide +kernel)) (by decide)
  · subst e; exact str_atL hts hgv (t := "cells") (bs := [99, 101, 108, 108, 115]) rfl gs_144 (chkL_ok (p := (5, 99)) (by decide +kernel)) (by decide)
  · subst e; exact str_atL hts hgv (t := "low") (bs := [108, 111, 119]) rfl gs_146 (chkL_ok (p := (5, 100)) (by decide +kernel)) (by decide)
  · subst e; exact str_atL hts hgv (t := "pieces") (bs := [112, 105, 101, 99, 101, 115]) rfl gs_148 (chkL_ok (p := (5, 101)) (by decide +kernel)) (by decide)
end TW
/-! The law's body, from its entry on -/
section LE
variable {k : kx_T} {dT : Nat → ClassId} {a0 : Array Value} {b L : Nat} {xs : Nat → Int32}
theorem law_entry2 (X : LX k dT a0 b L xs) (hH : ∀ v, okW bsB v wH0 → vO v 0 = b → WS k 23 (cL v lvH) [] (cW v dT bsB (wH wH0)) 518 23524) : WS k 0 (lv_args 0 [.ref b]) [] [] 0 0 := by
  let v0 : VL := (fun z => xs z, fun _ => 0, fun _ => 0, fun _ => b, fun _ _ => 0, fun _ _ => 0)
  have hcf : cfX cfA cxE := fun _ _ _ h => cf_ok h
  have hstop : ∀ s, chkH s = true → GS k cxE 350 350 dT wI0 v0 s := by
    intro s hs v I
    obtain ⟨pc, lv, st, w, lp, ce, sl⟩ := s
    simp only [chkH, Bool.and_eq_true] at hs
    obtain ⟨⟨⟨⟨⟨⟨⟨⟨⟨⟨c1, c2⟩, c3⟩, c4⟩, c5⟩, c6⟩, c7⟩, c8⟩, c9⟩, c10⟩, c11⟩ := hs
    have d1 : pc = 23 := Nat.eq_of_beq_eq_true c1
    have d2 : lv = lvH := qLO_ok c2
    have d3 : st = [] := qLV_ok c3
    have d4 : wE w = e6 := qAE_ok c4
    have d5 : (wH w).1 = 518 := Nat.eq_of_beq_eq_true c5
    have d6 : wL w = 0 := Nat.eq_of_beq_eq_true c6
    have d7 : wA w = 486 := Nat.eq_of_beq_eq_true c7
    have d8 : wX w = 1 := Nat.eq_of_beq_eq_true c8
    have d9 : ce = 518 := Nat.eq_of_beq_eq_true c9
    have d10 : sl = 23524 := Nat.eq_of_beq_eq_true c10
    have cell : ∀ i, i < 518 → hGet bsE (wH w) i = hGet bsB (wH wH0) i := fun i hi => qAC_ok (List.all_eq_true.mp c11 i (List.mem_range.mpr hi))
    clear c1 c2 c3 c9 c10
    subst d1; subst d2; subst d3; subst d9; subst d10
    have hle : wle w wH0 := ⟨by rw [d4]; exact Nat.le_refl _, by rw [d5]; exact Nat.le_refl _, by rw [d6]; exact Nat.zero_le _, by rw [d7]; exact Nat.le_refl _, by rw [d8]; exact Nat.le_refl _⟩
    have hw := I.2.2.1
    have hok : okW bsB v wH0 := by
      refine ⟨by have := hw.1; replace this : okE v (wE w) := this; rw [d4] at this; exact this, fun i hi => ?_, fun i hi => ?_, ?_⟩
      · rw [← cell i hi]
        exact hw.2.1 i (by show i < (wH w).1; rw [d5]; exact hi)
      · rw [← cell i hi]
        exact scC_mono hle (hw.2.2.1 i (by show i < (wH w).1; rw [d5]; exact hi))
      · have := hw.2.2.2
        replace this : ∀ (k : Nat) (b : Int × Int × Nat × Int), (wE w)[k]? = some b → b.2.2.1 ≤ k := this
        rw [d4] at this
        exact this
    have hcw : cW v dT bsE (wH w) = cW v dT bsB (wH wH0) := by
      unfold cW
      show (List.range (wH w).1).map _ = (List.range 518).map _
      rw [d5]
      apply List.map_congr_left
      intro i hi
      rw [cell i (List.mem_range.mp hi)]
    have g := hH v hok (I.2.1.2.2.2.2 0 (by decide)).symm
    show WS k 23 (cL v lvH) [] (cW v dT bsE (wH w)) 518 23524
    rw [hcw]
    exact g
  have M := law_MX (x := cxE) (w0 := wI0) (v0 := v0) (rs := []) (wB := wI0) X rfl rfl bsE_sc (wle_rf _) rfl (Or.inl rfl)
  have g := (seg_ok hstop hcf M (callE X) (fun pc r q => (rows_ok (a0 := a0) (mn := 350) (pc := pc) (r := r) X.1.2.2.2.1 q).1) 1000 _ _ _ (nilO_ok pro_ok) (fun r hr => absurd hr List.not_mem_nil)).1 _ List.mem_cons_self
  have hi : Inv k cxE 350 350 dT wI0 v0 sI0 v0 := by
    refine ⟨wle_rf _, agr_rf _ _, ⟨?_, fun i hi => absurd hi (Nat.not_lt_zero _), fun i hi => absurd hi (Nat.not_lt_zero _), ?_⟩, ?_, fun z hz => absurd hz List.not_mem_nil, X.1.2.2.2.2.2.2.2.symm, fun p hp => absurd hp List.not_mem_nil⟩
    · intro j q hq
      have hr := z_toInt (vI v0 j)
      match j, hq with
      | 0, hq => cases hq; exact ⟨hr.1, hr.2, (Int.add_zero _).symm⟩
      | 1, hq => cases hq; exact ⟨hr.1, hr.2, (Int.add_zero _).symm⟩
      | 2, hq => cases hq; exact ⟨hr.1, hr.2, (Int.add_zero _).symm⟩
      | 3, hq => cases hq; exact ⟨hr.1, hr.2, (Int.add_zero _).symm⟩
      | 4, hq => cases hq; exact ⟨hr.1, hr.2, (Int.add_zero _).symm⟩
      | 5, hq => cases hq; exact ⟨hr.1, hr.2, (Int.add_zero _).symm⟩
      | n + 6, hq => cases hq
    · intro j q hq
      match j, hq with
      | 0, hq => cases hq; exact Nat.le_refl _
      | 1, hq => cases hq; exact Nat.le_refl _
      | 2, hq => cases hq; exact Nat.le_refl _
      | 3, hq => cases hq; exact Nat.le_refl _
      | 4, hq => cases hq; exact Nat.le_refl _
      | 5, hq => cases hq; exact Nat.le_refl _
      | n + 6, hq => cases hq
    · intro a ha
      simp only [sI0, sLv, lvI, List.mem_cons, List.not_mem_nil, or_false, Option.some.injEq, reduceCtorEq] at ha
      subst ha
      exact (show (0 : Nat) < 1 by decide)
  exact g v0 hi
theorem law_body (X : LX k dT a0 b L xs) (hL : L ≤ 3072) (GR : RS0 (kS0 k)) (SF : SF0 (kS0 k)) (GT : TXs0 (kS0 k)) (GW : TXw0 (kS0 k)) : WS k 0 (lv_args 0 [.ref b]) [] [] 0 0 := by
  refine law_entry2 X (fun v hok hb => ?_)
  subst hb
  obtain ⟨⟨C, Z, hT, hNc, e1, e2, e3, e4⟩, ⟨e5, e6, e7, e8⟩, hX⟩ := X
  have AXk : AX k 350 dT := ⟨C, ⟨e3, e2, e4⟩, hT, hNc⟩
  have R0 : RLx (pic v) := fun j _ h => by
    rw [iI_pic f90 (by decide)] at h
    omega
  have g := law_head (D := kD k) (l := kL k) (s0 := kS0 k) (tys := kTy k) (a0 := a0) ⟨Z, hT, hNc⟩ GR SF GT GW AXk ⟨rfl, rfl, rfl, e1⟩ hX hL e5 e8 512 0 (vA v) (pic v) (bd_pic hok) R0 (feq0 hok) ⟨by rw [iI_pic g70 (by decide)]; decide, fun r hr => by rw [iI_pic g70 (by decide)] at hr; omega⟩ ⟨⟨by rw [iI_pic g71 (by decide)]; decide, by rw [iI_pic g71 (by decide), iI_pic g70 (by decide)]; decide, by rw [iI_pic g70 (by decide)]; decide⟩, fun r hr => by rw [iI_pic g70 (by decide)] at hr; omega, fun _ a => by obtain ⟨r, hr, _⟩ := a; rw [iI_pic g70 (by decide)] at hr; omega⟩ (arj0 hok) (ptj0 hok) (iI_pic f89 (by decide)) (by rw [iI_pic f12 (by decide)]; decide) (by rw [iI_pic g0 (by decide), iI_pic g74 (by decide)]) (by rw [iI_pic g9 (by decide), iI_pic g90 (by decide)]) (by rw [iI_pic g20 (by decide), iI_pic g98 (by decide)]) (by rw [iI_pic g70 (by decide), iI_pic g107 (by decide)]) (by omega) (by decide)
  rw [cW_pic]
  exact g
end LE
