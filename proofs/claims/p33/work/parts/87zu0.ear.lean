
theorem oq_9752f5cd {a0 : Int} (h0 : a0 = 0) : a0 ≤ 23 := by sorry
/-! The ears of the storm -/

/-- the mended air: load, ways, mosts, how many -/
def CDM (L : LdF) (wy : WyS) (mo : Nat → Int) (n : Nat) (s : PS) : Prop := (iI s 43 = (n : Int) ∧ n ≤ 12) ∧ WyE n (WYCM s) wy ∧ (∀ x, x < n → iC s 67 x = mo x) ∧ LDC L s
theorem CDM_fm {L' : LdF} {wy : WyS} {mo : Nat → Int} {n : Nat} {L M : List Nat} {s t : PS} (F : Fm L M s t) (h : (43 ∉ L ∧ 13 ∉ L) ∧ 58 ∉ M ∧ 57 ∉ M ∧ 67 ∉ M ∧ 17 ∉ M ∧ 16 ∉ M) (r : CDM L' wy mo n s) : CDM L' wy mo n t := by sorry
/-! Ear 0 -/
def LSNE0 (lo hi : Int64) (s : PS) : Prop := VSQM 80 81 82 83 46 lo hi (iI s 43) s s ∧ MTQM 84 85 86 47 lo hi (iI s 44) s s
theorem LSNE0_fm {lo hi : Int64} {L M : List Nat} {s t : PS} (F : Fm L M s t) (h : (43 ∉ L ∧ 44 ∉ L ∧ 46 ∉ L ∧ 47 ∉ L) ∧ (80 ∉ M ∧ 81 ∉ M ∧ 82 ∉ M ∧ 83 ∉ M ∧ 84 ∉ M ∧ 85 ∉ M ∧ 86 ∉ M) ∧ 62 ∉ M ∧ 63 + 1000 ∉ M ∧ 59 + 1000 ∉ M ∧ 61 + 1000 ∉ M) (r : LSNE0 lo hi s) : LSNE0 lo hi t := by sorry
theorem lsne0_sums {s : PS} {lo hi : Int64} (h : AIRM s) (l : LSNE0 lo hi s) (h0 : 0 ≤ iI s 43) (mo : Nat → Int) :
    VSS 80 81 82 83 s (fun x _ _ _ => mo x) (iI s 46).toNat = waH (inL lo hi) (WYCM s) mo (iI s 43).toNat ∧
    VSS 80 81 82 83 s (fun x o _ _ => mo x * o) (iI s 46).toNat = oaH (inL lo hi) (WYCM s) mo (iI s 43).toNat ∧
    VSS 80 81 82 83 s (fun x _ i _ => mo x * i) (iI s 46).toNat = iaH (inL lo hi) (WYCM s) mo (iI s 43).toNat ∧
    VSS 80 81 82 83 s (fun x _ _ c => mo x * c) (iI s 46).toNat = caH (inL lo hi) (WYCM s) mo (iI s 43).toNat := by sorry
theorem lsne0_cr {s : PS} {lo hi : Int64} (h : AIRM s) (p : CPLM s) (l : LSNE0 lo hi s) (h0 : 0 ≤ iI s 43) (mo : Nat → Int) : MTS 84 85 86 s (fun a b k => k * min (mo a) (mo b)) (iI s 47).toNat = crH (inL lo hi) (WYCM s) mo (iI s 43).toNat := by sorry
def HRQE0 (s : PS) (q w c wa ov cl : Int) : Prop := wa = VSS 80 81 82 83 s (fun x _ _ _ => moXM s q w x) c.toNat ∧ ov = VSS 80 81 82 83 s (fun x o _ _ => moXM s q w x * o) c.toNat ∧ cl = VSS 80 81 82 83 s (fun x _ _ k => moXM s q w x * k) c.toNat
theorem hrqe0_0 {s : PS} {q w : Int} : HRQE0 s q w 0 0 0 0 := by sorry
theorem hrqe0_up {s : PS} {q w c wa ov cl m o k : Int} (h : HRQE0 s q w c wa ov cl) (c0 : 0 ≤ c) (hm : m = moXM s q w (iC s 80 c.toNat).toNat) (ho : o = iC s 81 c.toNat) (hk : k = iC s 83 c.toNat) : HRQE0 s q w (c + 1) (wa + m) (ov + m * o) (cl + m * k) := by sorry
def HRCE0 (s : PS) (q w c cr : Int) : Prop := cr = MTS 84 85 86 s (fun a b k => k * min (moXM s q w a) (moXM s q w b)) c.toNat
theorem hrce0_y {s : PS} {q w c cr o m k a b : Int} (h : HRCE0 s q w c cr) (c0 : 0 ≤ c) (ho : o = iC s 86 c.toNat) (ha : a = moXM s q w (iC s 84 c.toNat).toNat) (hb : b = moXM s q w (iC s 85 c.toNat).toNat) (hm : m = min a b) (hk : k = o * m) : HRCE0 s q w (c + 1) (cr + k) := by sorry
theorem hrce0_n {s : PS} {q w c cr : Int} (h : HRCE0 s q w c cr) (c0 : 0 ≤ c) (hn : ∀ j, j < 288 → 0 ≤ iC s 67 j) (hq : 0 ≤ q ∧ q ≤ 23) (ra : 0 ≤ iC s 84 c.toNat ∧ iC s 84 c.toNat ≤ 11) (rb : 0 ≤ iC s 85 c.toNat ∧ iC s 85 c.toNat ≤ 11) (hz : iC s 84 c.toNat = w ∨ iC s 85 c.toNat = w) : HRCE0 s q w (c + 1) cr := by sorry
def HRDE0 (q w : Int) (s t : PS) : Prop := iC t 87 0 = VSS 80 81 82 83 s (fun x _ _ _ => moXM s q w x) (iI s 46).toNat ∧ iC t 87 1 = MTS 84 85 86 s (fun a b k => k * min (moXM s q w a) (moXM s q w b)) (iI s 47).toNat ∧ iC t 87 2 = VSS 80 81 82 83 s (fun x o _ _ => moXM s q w x * o) (iI s 46).toNat ∧ iC t 87 3 = VSS 80 81 82 83 s (fun x _ _ k => moXM s q w x * k) (iI s 46).toNat ∧ ∀ j, 4 ≤ j → iC t 87 j = iC s 87 j
theorem hrde0_of {q w wa cr ov cl c d : Int} {s t t1 t2 t3 t4 : PS} (h : HRQE0 s q w c wa ov cl) (hc : c = iI s 46) (g : HRCE0 s q w d cr) (hd : d = iI s 47) (sa : SAM 87 s t) (r1 : rng wa) (r2 : rng cr) (r3 : rng ov) (r4 : rng cl) (h1 : t1 = uC t 87 (0 : Int).toNat (Int32.ofInt wa)) (h2 : t2 = uC t1 87 (1 : Int).toNat (Int32.ofInt cr)) (h3 : t3 = uC t2 87 (2 : Int).toNat (Int32.ofInt ov)) (h4 : t4 = uC t3 87 (3 : Int).toNat (Int32.ofInt cl)) : HRDE0 q w s t4 := by sorry
def HEHE0 (lo hi : Int64) (x : Int) (t : PS) : Prop := iC t 87 4 = bnN lo + bnN hi ∧ iC t 87 5 = bnN lo ∧ iC t 87 6 = x
theorem hehe0_of {lo hi : Int64} {x e1 e2 e3 : Int} {s t1 t2 t3 : PS} (b1 : e1 = bnN lo) (b2 : e2 = bnN hi) (b3 : e3 = bnN lo) (hx : rng x) (h1 : t1 = uC s 87 (4 : Int).toNat (Int32.ofInt (e1 + e2))) (h2 : t2 = uC t1 87 (5 : Int).toNat (Int32.ofInt e3)) (h3 : t3 = uC t2 87 (6 : Int).toNat (Int32.ofInt x)) : HEHE0 lo hi x t3 := by sorry
theorem hehe0_s {lo hi : Int64} {x : Int} {s t : PS} (h : HEHE0 lo hi x s) (g : SAM 87 s t) : HEHE0 lo hi x t := by sorry
theorem lsne0_of {lo hi : Int64} {c d : Int} {s t u : PS} (h : VSQM 80 81 82 83 46 lo hi c s t) (g : MTQM 84 85 86 47 lo hi d s u) (hc : c = iI s 43) (hd : d = iI s 44) (hc2 : iI u 43 = iI s 43) (hd2 : iI u 44 = iI s 44) (e1 : ∀ j, gD u 59 j = gD s 59 j) (e2 : ∀ j, gD u 61 j = gD s 61 j) (e3 : ∀ j, gD u 63 j = gD s 63 j) (e4 : ∀ j, iC u 62 j = iC s 62 j) (f0 : iI u 46 = iI t 46) (f1 : SAM 80 t u) (f2 : SAM 81 t u) (f3 : SAM 82 t u) (f4 : SAM 83 t u) : LSNE0 lo hi u := by sorry
def VSEE0 (s : PS) (lo hi : Int64) (t : PS) : Prop := VSQM 80 81 82 83 46 lo hi (iI s 43) s t
theorem vsee0_of {c : Int} {lo hi : Int64} {s t u : PS} (h : VSQM 80 81 82 83 46 lo hi c s t) (hc : c = iI s 43) (f : iI u 46 = iI t 46 ∧ SAM 80 t u ∧ SAM 81 t u ∧ SAM 82 t u ∧ SAM 83 t u) : VSEE0 s lo hi u := by sorry
theorem lsne0_e {d : Int} {lo hi : Int64} {s u : PS} (h : VSEE0 s lo hi u) (g : MTQM 84 85 86 47 lo hi d s u) (hd : d = iI s 44) (hc2 : iI u 43 = iI s 43) (hd2 : iI u 44 = iI s 44) (e1 : ∀ j, gD u 59 j = gD s 59 j) (e2 : ∀ j, gD u 61 j = gD s 61 j) (e3 : ∀ j, gD u 63 j = gD s 63 j) (e4 : ∀ j, iC u 62 j = iC s 62 j) : LSNE0 lo hi u := by sorry
theorem mtye0_sam {a : Nat} {t t1 t2 t3 t4 : PS} {i1 i2 i3 : Nat} {x1 x2 x3 x4 : Int32} (h1 : t1 = uC t 84 i1 x1) (h2 : t2 = uC t1 85 i2 x2) (h3 : t3 = uC t2 86 i3 x3) (h4 : t4 = uI t3 47 x4) (d : a ≠ 84 ∧ a ≠ 85 ∧ a ≠ 86) : SAM a t t4 := by sorry
theorem mtye0_vi {t t1 t2 t3 t4 : PS} {i1 i2 i3 : Nat} {x1 x2 x3 x4 : Int32} (h1 : t1 = uC t 84 i1 x1) (h2 : t2 = uC t1 85 i2 x2) (h3 : t3 = uC t2 86 i3 x3) (h4 : t4 = uI t3 47 x4) : iI t4 46 = iI t 46 := by sorry
theorem HEHE0_fm {lo hi : Int64} {x : Int} {L M : List Nat} {s t : PS} (F : Fm L M s t) (h : 87 ∉ M) (r : HEHE0 lo hi x s) : HEHE0 lo hi x t := by sorry
theorem hehe0_h {lo hi : Int64} {x q w : Int} {s t : PS} (r : HEHE0 lo hi x s) (h : HRDE0 q w s t) : HEHE0 lo hi x t := by sorry
theorem cle0_names {L : LdF} {wy : WyS} {mo : Nat → Int} {n : Nat} {s t : PS} {lo hi : Int64} {pc : Int} (a : AIRM s) (p : CPLM s) (l : LSNE0 lo hi s) (e : HEHE0 lo hi pc s) (d : CDM L wy mo n s) (h : HRDE0 0 (-1) s t) : ∀ j, j < 7 → Int32.ofInt (iC t 87 j) = nmH (inL lo hi) wy mo n pc j := by sorry
theorem cle0_load {L : LdF} {wy : WyS} {mo : Nat → Int} {n : Nat} {s t : PS} {lo hi : Int64} {pc e x : Int} (a : AIRM s) (p : CPLM s) (l : LSNE0 lo hi s) (k : HEHE0 lo hi pc s) (d : CDM L wy mo n s) (h : HRDE0 0 (-1) s t) (hx : x = iI s 13) (hc : cdL t x = cdL s x) (hw : (x = -1 → Int32.ofInt e = Int32.ofInt (iC t 87 0 + 2 * iC t 87 1 + iC t 87 2)) ∧ (x ≠ -1 → ∀ w : Int32, VLm (fun j => Int32.ofInt (iC t 87 j)) w (cdL t x) → Int32.ofInt e = w)) : Int32.ofInt e = L (nmH (inL lo hi) wy mo n pc) := by sorry
section M87ku0
variable {l : Launch} {s0 : State} {D : va_G} {tys : List (ClassId × FieldType)} {a0 : Array Value} {A : Nat → Nat} {dT : Nat → ClassId} {s : PS}
set_option maxRecDepth 4000 in
theorem c0_follow3e0 (G : GX l s0 D tys a0 dT) (I : Bd s) {x : Int} {aj bj : Int64} (p0 : 0 ≤ x ∧ x ≤ 11) (p1 : iI s 46 ≤ 11) : CT l s0 D A dT 2 (rmN 2) [.ref (A 93), .int (Int32.ofInt x), .long aj, .long bj] s (fun o t => Bd t ∧ Fm [] [81, 82, 83] s t ∧ o = .inl none ∧ (FSRM 81 82 83 46 x aj bj s t)) := by sorry
set_option maxRecDepth 4000 in
theorem c0_listen3e0 (G : GX l s0 D tys a0 dT) (I : Bd s) {x : Int} {aj bj : Int64} (p0 : rng x) : CT l s0 D A dT 1 (rmN 1) [.ref (A 93), .long aj, .long bj, .int (Int32.ofInt x)] s (fun o t => Bd t ∧ Fm [46, 47] [87, 80, 81, 82, 83, 84, 85, 86] s t ∧ o = .inl none ∧ (LSNE0 aj bj t ∧ HEHE0 aj bj x t)) := by sorry
set_option maxRecDepth 4000 in
theorem c0_hear3e0 (G : GX l s0 D tys a0 dT) {aj bj : Int64} (I : Bd s) (jLSNE0 : LSNE0 aj bj s) {x y : Int} (p0 : 0 ≤ x ∧ x ≤ 23) (p1 : rng y) : CT l s0 D A dT 3 (rmN 3) [.ref (A 93), .int (Int32.ofInt x), .int (Int32.ofInt y)] s (fun o t => Bd t ∧ Fm [] [87] s t ∧ o = .inl none ∧ (HRDE0 x y s t)) := by sorry
set_option maxRecDepth 4000 in
theorem c7_work3e0 (G : GX l s0 D tys a0 dT) (I : Bd s) {x : Int} (p0 : -1 ≤ x ∧ x ≤ 7) : CT l s0 D A dT 84 (rmN 84) [.ref (A 19), .int (Int32.ofInt x), .ref (A 101)] s (fun o t => Bd t ∧ Fm [] [20] s t ∧ ∃ e, o = .inl (some (.int (Int32.ofInt e))) ∧ rng e ∧ ((x = -1 → Int32.ofInt e = Int32.ofInt (iC s 87 0 + 2 * iC s 87 1 + iC s 87 2)) ∧ (x ≠ -1 → ∀ w : Int32, VLm (fun j => Int32.ofInt (iC s 87 j)) w (cdL s x) → Int32.ofInt e = w))) := by sorry
set_option maxRecDepth 4000 in
theorem c0_loadAte0 (G : GX l s0 D tys a0 dT) {L : LdF} {wy : WyS} {mo : Nat → Int} {nn : Nat} {aj bj : Int64} {pc : Int} (I : Bd s) (jAIRM : AIRM s) (jCPLM : CPLM s) (jLSNE0 : LSNE0 aj bj s) (jCDM : CDM L wy mo nn s) (jHEHE0 : HEHE0 aj bj pc s) {x y : Int} (p0 : x = 0) (p1 : y = -1) : CT l s0 D A dT 4 (rmN 4) [.ref (A 93), .int (Int32.ofInt x), .int (Int32.ofInt y)] s (fun o t => Bd t ∧ Fm [] [87, 20] s t ∧ HEHE0 aj bj pc t ∧ ∃ e, o = .inl (some (.int (Int32.ofInt e))) ∧ rng e ∧ (Int32.ofInt e = L (nmH (inL aj bj) wy mo nn pc))) := by sorry
end M87ku0
