/-! The law's body -/
def bsE (_ : Nat) : AC := .inr (99, [])
def cxE : ACx := (bsE, cdA, miB, fun _ _ _ => none, fun _ _ => none, fun _ _ _ => none, exA, fun _ => 0)
/-- hints, of loops and of calls; contracts -/
abbrev HT : Type := (Nat → Nat → Nat → Option ALh) × (Nat → Nat → Option ASm) × (Nat → List AV → AW → Option (List AR))
def ct0 : Nat → List AV → AW → Option (List AR) := fun _ _ _ => none
def ht0 : HT := (lhA, smA, ct0)
/-- the law's context, the script of L ints; the methods' context -/
def cxS (h : HT) (L : Nat) : ACx := (bsB, cdA, miB, h.1, h.2.1, fun _ _ _ => none, exA, fun j => if Nat.beq j 350 then L else 0)
def cxM (h : HT) : ACx := (bsB, cdA, miB, h.1, h.2.1, h.2.2, exA, fun _ => 0)
/-- the script: its ints, known -/
def rScr : List Int := [0, 805306368, 0, 0, 0, 0, 1, 1, 0, 0, 0, 0, 0, 822083584, 0, 0, 0, 0, 1, 1, 0, 0, 0, 0, 0, 838860800, 0, 0, 0, 0, 1, 1, 0, 0, 0, 0, 0, 855638016, 0, 0, 0, 0, 1, 1, 0, 0, 0, 0, 0, 872415232, 0, 0, 0, 0, 1, 1, 0, 0, 0, 0, 0, 889192448, 0, 0, 0, 0, 1, 1, 0, 0, 0, 0, 0, 905969664, 0, 0, 0, 0, 1, 1, 0, 0, 0, 0, 0, 922746880, 0, 0, 0, 0, 1, 1, 0, 0, 0, 0, 0, 939524096, 0, 0, 0, 0, 1, 1, 0, 0, 0, 0, 0, 956301312, 0, 0, 0, 0, 1, 1, 0, 0, 0, 0, 0, 825229312, 0, 0, 0, 0, 1, 2, 0, 0, 0, 0, 0, 825294848, 0, 0, 0, 0, 1, 2, 0, 0, 0, 0, 1, 0, 0, 0, 0, 0, 3, 0, 0, 0, 0, 0]
def rXs : List Int32 := [0, 805306368, 0, 0, 0, 0, 1, 1, 0, 0, 0, 0, 0, 822083584, 0, 0, 0, 0, 1, 1, 0, 0, 0, 0, 0, 838860800, 0, 0, 0, 0, 1, 1, 0, 0, 0, 0, 0, 855638016, 0, 0, 0, 0, 1, 1, 0, 0, 0, 0, 0, 872415232, 0, 0, 0, 0, 1, 1, 0, 0, 0, 0, 0, 889192448, 0, 0, 0, 0, 1, 1, 0, 0, 0, 0, 0, 905969664, 0, 0, 0, 0, 1, 1, 0, 0, 0, 0, 0, 922746880, 0, 0, 0, 0, 1, 1, 0, 0, 0, 0, 0, 939524096, 0, 0, 0, 0, 1, 1, 0, 0, 0, 0, 0, 956301312, 0, 0, 0, 0, 1, 1, 0, 0, 0, 0, 0, 825229312, 0, 0, 0, 0, 1, 2, 0, 0, 0, 0, 0, 825294848, 0, 0, 0, 0, 1, 2, 0, 0, 0, 0, 1, 0, 0, 0, 0, 0, 3, 0, 0, 0, 0, 0]
def e6 : AE := [(0, 0, 0, 0), (805306368, 805306368, 1, 0), (0, 0, 2, 0), (0, 0, 3, 0), (0, 0, 4, 0), (0, 0, 5, 0), (1, 1, 6, 0), (1, 1, 7, 0), (0, 0, 8, 0), (0, 0, 9, 0), (0, 0, 10, 0), (0, 0, 11, 0), (0, 0, 12, 0), (822083584, 822083584, 13, 0), (0, 0, 14, 0), (0, 0, 15, 0), (0, 0, 16, 0), (0, 0, 17, 0), (1, 1, 18, 0), (1, 1, 19, 0), (0, 0, 20, 0), (0, 0, 21, 0), (0, 0, 22, 0), (0, 0, 23, 0), (0, 0, 24, 0), (838860800, 838860800, 25, 0), (0, 0, 26, 0), (0, 0, 27, 0), (0, 0, 28, 0), (0, 0, 29, 0), (1, 1, 30, 0), (1, 1, 31, 0), (0, 0, 32, 0), (0, 0, 33, 0), (0, 0, 34, 0), (0, 0, 35, 0), (0, 0, 36, 0), (855638016, 855638016, 37, 0), (0, 0, 38, 0), (0, 0, 39, 0), (0, 0, 40, 0), (0, 0, 41, 0), (1, 1, 42, 0), (1, 1, 43, 0), (0, 0, 44, 0), (0, 0, 45, 0), (0, 0, 46, 0), (0, 0, 47, 0), (0, 0, 48, 0), (872415232, 872415232, 49, 0), (0, 0, 50, 0), (0, 0, 51, 0), (0, 0, 52, 0), (0, 0, 53, 0), (1, 1, 54, 0), (1, 1, 55, 0), (0, 0, 56, 0), (0, 0, 57, 0), (0, 0, 58, 0), (0, 0, 59, 0), (0, 0, 60, 0), (889192448, 889192448, 61, 0), (0, 0, 62, 0), (0, 0, 63, 0), (0, 0, 64, 0), (0, 0, 65, 0), (1, 1, 66, 0), (1, 1, 67, 0), (0, 0, 68, 0), (0, 0, 69, 0), (0, 0, 70, 0), (0, 0, 71, 0), (0, 0, 72, 0), (905969664, 905969664, 73, 0), (0, 0, 74, 0), (0, 0, 75, 0), (0, 0, 76, 0), (0, 0, 77, 0), (1, 1, 78, 0), (1, 1, 79, 0), (0, 0, 80, 0), (0, 0, 81, 0), (0, 0, 82, 0), (0, 0, 83, 0), (0, 0, 84, 0), (922746880, 922746880, 85, 0), (0, 0, 86, 0), (0, 0, 87, 0), (0, 0, 88, 0), (0, 0, 89, 0), (1, 1, 90, 0), (1, 1, 91, 0), (0, 0, 92, 0), (0, 0, 93, 0), (0, 0, 94, 0), (0, 0, 95, 0), (0, 0, 96, 0), (939524096, 939524096, 97, 0), (0, 0, 98, 0), (0, 0, 99, 0), (0, 0, 100, 0), (0, 0, 101, 0), (1, 1, 102, 0), (1, 1, 103, 0), (0, 0, 104, 0), (0, 0, 105, 0), (0, 0, 106, 0), (0, 0, 107, 0), (0, 0, 108, 0), (956301312, 956301312, 109, 0), (0, 0, 110, 0), (0, 0, 111, 0), (0, 0, 112, 0), (0, 0, 113, 0), (1, 1, 114, 0), (1, 1, 115, 0), (0, 0, 116, 0), (0, 0, 117, 0), (0, 0, 118, 0), (0, 0, 119, 0), (0, 0, 120, 0), (825229312, 825229312, 121, 0), (0, 0, 122, 0), (0, 0, 123, 0), (0, 0, 124, 0), (0, 0, 125, 0), (1, 1, 126, 0), (2, 2, 127, 0), (0, 0, 128, 0), (0, 0, 129, 0), (0, 0, 130, 0), (0, 0, 131, 0), (0, 0, 132, 0), (825294848, 825294848, 133, 0), (0, 0, 134, 0), (0, 0, 135, 0), (0, 0, 136, 0), (0, 0, 137, 0), (1, 1, 138, 0), (2, 2, 139, 0), (0, 0, 140, 0), (0, 0, 141, 0), (0, 0, 142, 0), (0, 0, 143, 0), (1, 1, 144, 0), (0, 0, 145, 0), (0, 0, 146, 0), (0, 0, 147, 0), (0, 0, 148, 0), (0, 0, 149, 0), (3, 3, 150, 0), (0, 0, 151, 0), (0, 0, 152, 0), (0, 0, 153, 0), (0, 0, 154, 0), (0, 0, 155, 0)]
theorem e6_len : e6.length = 156 := by decide +kernel
/-- the law's entry; where it stands at its loop's head -/
def wI0 : AW := (e6, (0, []), 0, 0, 1)
def lvI : List (Option AV) := [some (aX 0), none, none, none, none, none, none]
def sI0 : AS := (0, lvI, [], wI0, [], 0, 0)
def lvH : List (Option AV) := [some (aX 0), some (aR (some 0)), some (aR (some 179)), some (aR (some 517)), some (aI 0), none, none]
def wH0 : AW := (e6, (518, [(517, .inl (1, 1, .inl [aJ 0]))]), 0, 486, 1)
def sH0 : AS := (23, lvH, [], wH0, [], 518, 23524)
/-- equality, decided -/
def dAV : DecidableEq AV := fun a b => (inferInstance : Decidable (a = b))
def dOV : DecidableEq (Option AV) := haveI := dAV; fun a b => inferInstance
def dLV : DecidableEq (List AV) := haveI := dAV; fun a b => inferInstance
def dLO : DecidableEq (List (Option AV)) := haveI := dOV; fun a b => inferInstance
def dAB : DecidableEq AB := haveI := dLV; fun a b => inferInstance
def dCL : DecidableEq (Nat × Nat × AB) := haveI := dAB; fun a b => inferInstance
def dCR : DecidableEq (Nat × List AV) := haveI := dLV; fun a b => inferInstance
def dAC : DecidableEq AC := haveI := dCL; haveI := dCR; fun a b => inferInstance
def dLC : DecidableEq (List (Nat × AC)) := haveI := dAC; fun a b => inferInstance
def qLO (a b : List (Option AV)) : Bool := @decide (a = b) (dLO a b)
def qLV (a b : List AV) : Bool := @decide (a = b) (dLV a b)
def qAC (a b : AC) : Bool := @decide (a = b) (dAC a b)
def qLC (a b : List (Nat × AC)) : Bool := @decide (a = b) (dLC a b)
def qAE (a b : AE) : Bool := decide (a = b)
theorem qLO_ok {a b : List (Option AV)} (h : qLO a b = true) : a = b := @of_decide_eq_true _ (dLO a b) h
theorem qLV_ok {a b : List AV} (h : qLV a b = true) : a = b := @of_decide_eq_true _ (dLV a b) h
theorem qAC_ok {a b : AC} (h : qAC a b = true) : a = b := @of_decide_eq_true _ (dAC a b) h
theorem qLC_ok {a b : List (Nat × AC)} (h : qLC a b = true) : a = b := @of_decide_eq_true _ (dLC a b) h
theorem qAE_ok {a b : AE} (h : qAE a b = true) : a = b := of_decide_eq_true h
/-- a state that is the loop's head, its cells those of the base -/
def chkH (s : AS) : Bool := Nat.beq (sPc s) 23 && qLO (sLv s) lvH && qLV (sSt s) [] && qAE (wE (sW s)) e6 && Nat.beq (wH (sW s)).1 518 && Nat.beq (wL (sW s)) 0 && Nat.beq (wA (sW s)) 486 && Nat.beq (wX (sW s)) 1 && Nat.beq (sC s) 518 && Nat.beq (sS s) 23524 &&
  (List.range 518).all (fun i => qAC (hGet bsE (wH (sW s)) i) (hGet bsB (wH wH0) i))
def nilO (o : Option (List AR)) : Bool := match o with
  | some [] => true
  | _ => false
theorem nilO_ok {o : Option (List AR)} (h : nilO o = true) : o = some [] := by
  cases o with
  | none => cases h
  | some l => cases l with
    | nil => rfl
    | cons a r => cases h
theorem pro_ok : nilO (oSeg chkH cfA cxE (oMeth cfA cxE 60) 350 350 1000 [sI0] []) = true := by decide +kernel
/-- an end is 0 -/
def okEnd0 (r : AR) : Bool := match r.1 with
  | .inl (some (.inl z)) => decide (z = 0)
  | _ => false
def okEnds0 (o : Option (List AR)) : Bool := match o with
  | some rs => rs.all okEnd0
  | none => false
/-- the script fits what is known of it -/
def okR (xs : Nat → Int32) : Prop := ∀ (j : Nat) (q : Int × Int × Nat × Int), e6[j]? = some q → (q.1 ≤ (xs j).toInt ∧ (xs j).toInt ≤ q.2.1 ∧ (xs j).toInt = (xs q.2.2.1).toInt + q.2.2.2) ∧ q.2.2.1 ≤ j
def rchk (j : Nat) : Bool := match e6[j]? with
  | some q => decide (q.1 ≤ (rXs.getD j 0).toInt) && decide ((rXs.getD j 0).toInt ≤ q.2.1) && decide ((rXs.getD j 0).toInt = (rXs.getD q.2.2.1 0).toInt + q.2.2.2) && decide (q.2.2.1 ≤ j)
  | none => true
theorem rchk_all : (List.range 156).all rchk = true := by decide +kernel
theorem okR_X : okR (fun j => rXs.getD j 0) := by
  intro j q hq
  have hj : j < 156 := by
    have := (List.getElem?_eq_some_iff.mp hq).1
    rwa [e6_len] at this
  have h := List.all_eq_true.mp rchk_all j (List.mem_range.mpr hj)
  unfold rchk at h
  rw [hq] at h
  simp only [Bool.and_eq_true, decide_eq_true_eq] at h
  exact ⟨⟨h.1.1.1, h.1.1.2, h.1.2⟩, h.2⟩
def K0 : mb_O → va_W → Prop := fun o _ => o = .inl (some (.int 0))
/-- all that is known in the law's activation -/
def LX (k : kx_T) (dT : Nat → ClassId) (a0 : Array Value) (b L : Nat) (xs : Nat → Int32) : Prop :=
  (kx_ok k ∧ z0_ok (kL k) (kS0 k) a0 (kD k) (kTy k) ∧ (∀ t, (kTy k)[min t 5]? = some (dT t, tyF t)) ∧ ncX (kS0 k) ∧ kR k = room_1 ∧ kOwn k = RL ∧ kCc k = code ∧ kN k = 7) ∧
  ((kMe k).sig.returnType = some .boolean ∧ (kMe k).name = "law" ∧ (∀ z ∈ (kC k).exceptionTable.toList, False) ∧ kx_end k K0 601024 7293034) ∧
  (va_X b L xs (kS k) (kS k).heap ∧ b < (kS k).heap.size ∧ ¬ kF k b)
theorem okEnd_K {x : ACx} {dT : Nat → ClassId} {w0 : AW} {v0 : VL} {rs : List AR} (h : rs.all okEnd0 = true) : ∀ o ws, Kd x dT w0 v0 rs o ws → K0 o ws := by
  rintro o ws ⟨⟨ro, rw_⟩, hr, v', a1, a2, a3, a4, a5, a6⟩
  have := List.all_eq_true.mp h _ hr
  rcases ro with ro | re
  · cases ro with
    | none => cases this
    | some a =>
      rcases a with z | j | m | j | q | j
      · have hz : z = 0 := of_decide_eq_true this
        subst hz
        exact a5
      all_goals cases this
  · cases this
section LW
variable {k : kx_T} {dT : Nat → ClassId} {a0 : Array Value} {b L : Nat} {xs : Nat → Int32}
/-- an activation of the law, in any context of the interpreter -/
theorem law_MX {x : ACx} {w0 : AW} {v0 : VL} {rs : List AR} {wB : AW} (X : LX k dT a0 b L xs) (hxm : xM x = miB) (hxe : xEx x = exA) (hB : ∀ i, scC wB (xB x i)) (hB0 : wle wB w0) (hok : rs.all okEnd0 = true) (hs : scrX k x 350 w0 v0) : MX k x 350 dT w0 v0 rs wB yA byA rtA hhA a0 := by
  obtain ⟨⟨C, Z, hT, hN, e1, e2, e3, e4⟩, ⟨e5, e6, e7, e8⟩, -⟩ := X
  have al := C.2.2.2.2.1.alike
  have m0 : xM x 350 = miB 350 := by rw [hxm]
  have hne : ∀ pc e, xEx x 350 pc e = none := fun pc e => by rw [hxe]; rfl
  refine ⟨⟨C, Z, ⟨by rw [e1, m0]; rfl, by rw [e1, m0]; rfl, by rw [e1, m0]; rfl, by rw [e1, m0]; rfl⟩, hT, hB, hB0, ⟨K0, by rw [m0]; exact e8, okEnd_K hok⟩, hs⟩, ⟨?_, exX_no hne e7, fun _ => e7, e3, e2, e6⟩, va_AO.moved al (va_AO.of (Z.2.1 _ ov1)), arrA_moved al (Z.2.1 _ ov2), arrA_moved al (Z.2.1 _ ov3)⟩
  rw [m0]
  exact ⟨fun q => absurd q (by decide), fun q => absurd q (by decide), fun _ => e5, fun q => absurd q (by decide)⟩
theorem bsE_sc (i : Nat) : scC wI0 (bsE i) := fun a ha => absurd ha List.not_mem_nil
theorem callE (X : LX k dT a0 b L xs) {v0 : VL} : callX k cxE 350 dT wI0 wI0 v0 yA byA rtA hhA (oMeth cfA cxE 60) := by
  obtain ⟨⟨C, Z, hT, hN, -⟩, -⟩ := X
  have P : PX cxE dT wI0 yA byA rtA hhA (kL k) (kS0 k) a0 (kD k) (kTy k) := ⟨Z, hT, bsE_sc, ⟨ov1, ov2, ov3⟩, fun _ _ _ h => rows_ok hN h⟩
  have hcf : cfX cfA cxE := fun _ _ _ h => cf_ok h
  exact fun cn as w rs v q1 q2 qa q3 q4 q5 => meth_ok (vP := v0) hcf P (fun _ => rfl) (fun _ _ _ _ _ h _ _ _ _ _ => by cases h) 60 350 cn as w rs v q1 q2 qa q3 q4 q5
/-- the methods' base: the script's ints are its symbols -/
def wB1 : AW := (e6, (517, []), 0, 485, 0)
theorem wle_B1 {w0 : AW} (h : wle wB0 w0) (he : 156 ≤ (wE w0).length) : wle wB1 w0 := ⟨he, h.2⟩
theorem bsB_sc1 (i : Nat) : scC wB1 (bsB i) := scC_mono (a := wB0) (b := wB1) ⟨Nat.zero_le _, Nat.le_refl _, Nat.le_refl _, Nat.le_refl _, Nat.le_refl _⟩ (bsB_sc i)
/-- the contracts of h hold, seen from v0 -/
def CtX (h : HT) (k : kx_T) (dT : Nat → ClassId) (v0 : VL) : Prop := CX (cxM h) dT wB1 v0 yA byA rtA hhA (kL k) (kS0 k) (kD k)
theorem ct_no {h : HT} {v0 : VL} (e : h.2.2 = ct0) : CtX h k dT v0 := fun mn as w rs v q _ _ _ _ _ => by
  replace q : h.2.2 mn as w = some rs := q
  rw [e] at q
  cases q
theorem PXL (X : LX k dT a0 b L xs) (h : HT) : PX (cxM h) dT wB1 yA byA rtA hhA (kL k) (kS0 k) a0 (kD k) (kTy k) := by
  obtain ⟨⟨C, Z, hT, hN, -⟩, -⟩ := X
  exact ⟨Z, hT, bsB_sc1, ⟨ov1, ov2, ov3⟩, fun mn pc r (q : cdA mn pc = some r) => rows_ok hN q⟩
theorem callL (X : LX k dT a0 b L xs) (h : HT) (L' : Nat) {w0 : AW} {v0 : VL} (hB1 : wle wB1 w0) (Ct : CtX h k dT v0) : callX k (cxS h L') 350 dT wB1 w0 v0 yA byA rtA hhA (oMeth cfA (cxM h) 60) := by
  have hcf : cfX cfA (cxM h) := fun mn pc f (q : cfA mn pc = some f) => cf_ok q
  exact fun cn as w rs v q1 q2 qa q3 q4 q5 => meth_ok hcf (PXL X h) (fun _ => rfl) Ct 60 350 cn as w rs v q1 q2 (agr_mono qa hB1) q3 q4 q5
theorem scrL (h : HT) (X : LX k dT a0 b L xs) (hL : L ≤ 156) {v0 : VL} {w0 : AW} (hw : 0 < wX w0) (he : 156 ≤ (wE w0).length) (h1 : vO v0 0 = b) (h2 : ∀ z, z < L → vI v0 z = xs z) : scrX k (cxS h L) 350 w0 v0 := by
  obtain ⟨-, -, X1, X2, X3⟩ := X
  right
  have e : xSc (cxS h L) 350 = L := rfl
  refine ⟨xs, ?_, ?_, ?_, hw, ?_, ?_, ?_⟩
  · rw [e, h1]; exact X1
  · rw [h1]; exact X2
  · rw [h1]; exact X3
  · rw [e]; omega
  · rw [e]; omega
  · rw [e]; exact h2
/-- a run of the law's own, all its ends 1 -/
theorem law_run {h : HT} {v0 : VL} (Ct : CtX h k dT v0) (X : LX k dT a0 b L xs) (hL : L ≤ 156) {n : Nat} {s : AS} (hr0 : okEnds0 (oRun cfA (cxS h L) (oMeth cfA (cxM h) 60) 350 350 n s) = true) {w0 : AW} (hB0 : wle wB0 w0) (hw : 0 < wX w0) (he : 156 ≤ (wE w0).length) (h1 : vO v0 0 = b) (h2 : ∀ z, z < L → vI v0 z = xs z) : GS k (cxS h L) 350 350 dT w0 v0 s := by
  cases hr : oRun cfA (cxS h L) (oMeth cfA (cxM h) 60) 350 350 n s with
  | none => rw [hr] at hr0; cases hr0
  | some rs =>
    rw [hr] at hr0
    have hcf : cfX cfA (cxS h L) := fun mn pc f (q : cfA mn pc = some f) => cf_ok q
    exact (run_ok hcf (law_MX (x := cxS h L) (rs := rs) X rfl rfl bsB_sc1 (wle_B1 hB0 he) hr0 (scrL h X hL hw he h1 h2)) (callL X h L (wle_B1 hB0 he) Ct) (fun pc r q => (rows_ok (a0 := a0) (mn := 350) (pc := pc) (r := r) X.1.2.2.2.1 q).1) n _ _ rs hr (fun r hr => hr)).1 _ List.mem_cons_self
/-- the same, stopping at states that are known to lead on -/
theorem law_seg {h : HT} {v0 : VL} (Ct : CtX h k dT v0) (X : LX k dT a0 b L xs) (hL : L ≤ 156) {stop : AS → Bool} {n : Nat} {s : AS} (hr0 : okEnds0 (oSeg stop cfA (cxS h L) (oMeth cfA (cxM h) 60) 350 350 n [s] []) = true) {w0 : AW} (hst : ∀ t, stop t = true → GS k (cxS h L) 350 350 dT w0 v0 t) (hB0 : wle wB0 w0) (hw : 0 < wX w0) (he : 156 ≤ (wE w0).length) (h1 : vO v0 0 = b) (h2 : ∀ z, z < L → vI v0 z = xs z) : GS k (cxS h L) 350 350 dT w0 v0 s := by
  cases hr : oSeg stop cfA (cxS h L) (oMeth cfA (cxM h) 60) 350 350 n [s] [] with
  | none => rw [hr] at hr0; cases hr0
  | some rs =>
    rw [hr] at hr0
    have hcf : cfX cfA (cxS h L) := fun mn pc f (q : cfA mn pc = some f) => cf_ok q
    exact (seg_ok hst hcf (law_MX (x := cxS h L) (rs := rs) X rfl rfl bsB_sc1 (wle_B1 hB0 he) hr0 (scrL h X hL hw he h1 h2)) (callL X h L (wle_B1 hB0 he) Ct) (fun pc r q => (rows_ok (a0 := a0) (mn := 350) (pc := pc) (r := r) X.1.2.2.2.1 q).1) n _ _ rs hr (fun r hr => hr)).1 _ List.mem_cons_self
theorem wle_BH : wle wB0 wH0 := ⟨by decide +kernel, by decide, by decide, by decide, by decide⟩
/-- from the loop's head on -/
def HeadOK (k : kx_T) (dT : Nat → ClassId) (b L : Nat) (xs : Nat → Int32) : Prop := ∀ v, okW bsB v wH0 → vO v 0 = b → (∀ z, z < L → vI v z = xs z) → WS k 23 (cL v lvH) [] (cW v dT bsB (wH wH0)) 518 23524
theorem head_of {h0 : HT} (X : LX k dT a0 b L xs) (h : ∀ v, okW bsB v wH0 → vO v 0 = b → (∀ z, z < L → vI v z = xs z) → GS k (cxS h0 L) 350 350 dT wH0 v sH0) : HeadOK k dT b L xs := fun v hv h1 h2 => by
  have e4 := X.1.2.2.2.2.2.2.2
  refine h v hv h1 h2 v ⟨wle_rf _, agr_rf _ _, hv, ?_, fun z hz => absurd hz List.not_mem_nil, e4.symm, fun p hp => absurd hp List.not_mem_nil⟩
  intro a ha
  simp only [sH0, sLv, lvH, List.mem_cons, List.not_mem_nil, or_false, Option.some.injEq, reduceCtorEq] at ha
  rcases ha with e | e | e | e | e <;> subst e
  · exact (show (0 : Nat) < 1 by decide)
  · exact (show (0 : Nat) < 518 by decide)
  · exact (show (179 : Nat) < 518 by decide)
  · exact (show (517 : Nat) < 518 by decide)
  · trivial
/-- from the entry on -/
theorem law_entry (X : LX k dT a0 b L xs) (hR : okR xs) (hL : L ≤ 156) (hH : HeadOK k dT b L xs) : WS k 0 (lv_args 0 [.ref b]) [] [] 0 0 := by
  let v0 : VL := (fun z => xs z, fun _ => 0, fun _ => 0, fun _ => b, fun _ _ => 0, fun _ _ => 0)
  have hcf : cfX cfA cxE := fun _ _ _ h => cf_ok h
  have hstop : ∀ s, chkH s = true → GS k cxE 350 350 dT wI0 v0 s := by
    intro s hs v I
    obtain ⟨pc, lv, st, w, lp, ce, sl⟩ := s
    simp only [chkH, Bool.and_eq_true] at hs
    obtain ⟨⟨⟨⟨⟨⟨⟨⟨⟨⟨c1, c2⟩, c3⟩, c4⟩, c5⟩, c6⟩, c7⟩, c8⟩, c9⟩, c10⟩, c11⟩ := hs
    have d1 : pc = 23 := Nat.eq_of_beq_eq_true c1
    have d2 : lv = lvH := qLO_ok c2
    have d3 : st = [] := qLV_ok c3
    have d4 : wE w = e6 := qAE_ok c4
    have d5 : (wH w).1 = 518 := Nat.eq_of_beq_eq_true c5
    have d6 : wL w = 0 := Nat.eq_of_beq_eq_true c6
    have d7 : wA w = 486 := Nat.eq_of_beq_eq_true c7
    have d8 : wX w = 1 := Nat.eq_of_beq_eq_true c8
    have d9 : ce = 518 := Nat.eq_of_beq_eq_true c9
    have d10 : sl = 23524 := Nat.eq_of_beq_eq_true c10
    have cell : ∀ i, i < 518 → hGet bsE (wH w) i = hGet bsB (wH wH0) i := fun i hi => qAC_ok (List.all_eq_true.mp c11 i (List.mem_range.mpr hi))
    clear c1 c2 c3 c9 c10
    subst d1; subst d2; subst d3; subst d9; subst d10
    have hle : wle w wH0 := ⟨by rw [d4]; exact Nat.le_refl _, by rw [d5]; exact Nat.le_refl _, by rw [d6]; exact Nat.zero_le _, by rw [d7]; exact Nat.le_refl _, by rw [d8]; exact Nat.le_refl _⟩
    have hw := I.2.2.1
    have hok : okW bsB v wH0 := by
      refine ⟨by have := hw.1; replace this : okE v (wE w) := this; rw [d4] at this; exact this, fun i hi => ?_, fun i hi => ?_, ?_⟩
      · rw [← cell i hi]
        exact hw.2.1 i (by show i < (wH w).1; rw [d5]; exact hi)
      · rw [← cell i hi]
        exact scC_mono hle (hw.2.2.1 i (by show i < (wH w).1; rw [d5]; exact hi))
      · have := hw.2.2.2
        replace this : ∀ (k : Nat) (b : Int × Int × Nat × Int), (wE w)[k]? = some b → b.2.2.1 ≤ k := this
        rw [d4] at this
        exact this
    have hcw : cW v dT bsE (wH w) = cW v dT bsB (wH wH0) := by
      unfold cW
      show (List.range (wH w).1).map _ = (List.range 518).map _
      rw [d5]
      apply List.map_congr_left
      intro i hi
      rw [cell i (List.mem_range.mp hi)]
    have g := hH v hok (I.2.1.2.2.2.2 0 (by decide)).symm (fun z hz => (I.2.1.1 z (by
      show z < e6.length
      rw [e6_len]
      omega)).symm)
    show WS k 23 (cL v lvH) [] (cW v dT bsE (wH w)) 518 23524
    rw [hcw]
    exact g
  have M := law_MX (x := cxE) (w0 := wI0) (v0 := v0) (rs := []) (wB := wI0) X rfl rfl bsE_sc (wle_rf _) rfl (Or.inl rfl)
  have g := (seg_ok hstop hcf M (callE X) (fun pc r q => (rows_ok (a0 := a0) (mn := 350) (pc := pc) (r := r) X.1.2.2.2.1 q).1) 1000 _ _ _ (nilO_ok pro_ok) (fun r hr => absurd hr List.not_mem_nil)).1 _ List.mem_cons_self
  have hi : Inv k cxE 350 350 dT wI0 v0 sI0 v0 := by
    refine ⟨wle_rf _, agr_rf _ _, ⟨?_, fun i hi => absurd hi (Nat.not_lt_zero _), fun i hi => absurd hi (Nat.not_lt_zero _), ?_⟩, ?_, fun z hz => absurd hz List.not_mem_nil, X.1.2.2.2.2.2.2.2.symm, fun p hp => absurd hp List.not_mem_nil⟩
    · intro j q hq
      exact (hR j q hq).1
    · intro j q hq
      exact (hR j q hq).2
    · intro a ha
      simp only [sI0, sLv, lvI, List.mem_cons, List.not_mem_nil, or_false, Option.some.injEq, reduceCtorEq] at ha
      subst ha
      exact (show (0 : Nat) < 1 by decide)
  exact g v0 hi
end LW

/-- a state with no loop open leads to the goal whatever the hints -/
theorem GS_hints {k : kx_T} {dT : Nat → ClassId} {w0 : AW} {v0 : VL} {s : AS} {h h' : HT} {L : Nat} (hlp : sLp s = []) (g : GS k (cxS h L) 350 350 dT w0 v0 s) : GS k (cxS h' L) 350 350 dT w0 v0 s := fun v I => by
  refine g v ⟨I.1, I.2.1, I.2.2.1, I.2.2.2.1, I.2.2.2.2.1, I.2.2.2.2.2.1, fun p hp => ?_⟩
  rw [hlp] at hp
  exact absurd hp List.not_mem_nil
