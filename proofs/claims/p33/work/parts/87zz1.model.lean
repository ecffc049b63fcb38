
/-! Mends: model, who is hit, the way round -/
def stM (s : PS) (c : Int) : Prop := (0 ≤ c ∧ c ≤ 127) ∧ iC s 399 c.toNat ≠ 0
theorem stm_s {s t : PS} (h : SAM 399 s t) : stM t = stM s := by sorry
def VHQ (S : Int → Prop) (f : Nat → Int) (c i : Int) : Prop := (i = 1 ∧ ∃ k : Nat, (k : Int) < c ∧ S (f k)) ∨ (i = 0 ∧ ∀ k : Nat, (k : Int) < c → ¬ S (f k))
theorem vhq_0 {S : Int → Prop} {f : Nat → Int} : VHQ S f 0 0 := by sorry
theorem vhq_1 {S : Int → Prop} {f : Nat → Int} {c i : Int} (h : VHQ S f c i) (hi : i ≠ 0) : VHQ S f (c + 1) 1 := by sorry
theorem vhq_s {S : Int → Prop} {f : Nat → Int} {c : Int} (c0 : 0 ≤ c) (h : S (f c.toNat)) : VHQ S f (c + 1) 1 := by sorry
theorem vhq_n {S : Int → Prop} {f : Nat → Int} {c i : Int} (h : VHQ S f c i) (hi : i = 0) (c0 : 0 ≤ c) (hn : ¬ S (f c.toNat)) : VHQ S f (c + 1) 0 := by sorry
theorem vhq_e {S : Int → Prop} {f : Nat → Int} {c i z : Int} (h : VHQ S f c i) (hz : c = z) : (i = 1 ∧ viH S f z) ∨ (i = 0 ∧ ¬ viH S f z) := by sorry
theorem mo_un {U : AirD} {x q e : Int} {s : PS} (d : MDJ U s) (x0 : 0 ≤ x ∧ x < (uN U : Int)) (q0 : 0 ≤ q ∧ q ≤ 23) (he : MXG (CMR s x) (q - iC s 164 x.toNat) (q + iC s 163 x.toNat + 1) e) : e = uM U q.toNat x.toNat := by sorry
/-- the other streams' ways round stand -/
def RKP (x : Int) (s t : PS) : Prop := (∀ j : Nat, j ≠ x.toNat → iC t 403 j = iC s 403 j) ∧ ∀ j k : Nat, j < 12 → j ≠ x.toNat → iC t (405 + j) k = iC s (405 + j) k
theorem rkp_0 {x : Int} {s : PS} : RKP x s s := by sorry
theorem rkp_a {x : Int} {a i : Nat} {v : Int32} {s t u : PS} (h : RKP x s t) (ha : a < 403 ∨ (403 < a ∧ a < 405) ∨ 405 + 12 ≤ a) (e : u = uC t a i v) : RKP x s u := by sorry
theorem rkp_m {x : Int} {v : Int32} {s t u : PS} (h : RKP x s t) (e : u = uC t 403 x.toNat v) : RKP x s u := by sorry
theorem rkp_r {x : Int} {i : Nat} {v : Int32} {s t u : PS} (h : RKP x s t) (e : u = uC t (405 + x.toNat) i v) : RKP x s u := by sorry
/-- a way back under way -/
def FRG (S : Int → Prop) (a b n c : Int) (fr p : Nat → Int) : Prop := ∃ σ, BFE S b σ ∧ BFI S σ ∧ (∀ c : Nat, c < 128 → fr c = σ.1 c) ∧ σ.1 a.toNat = n - 1 ∧ PTS σ.1 a p c
/-- the least of the nearer ones so far -/
def NMN9 (S : Int → Prop) (fr : Nat → Int) (x be c : Int) : Prop := (be = -1 ∧ ∀ g : Int, 0 ≤ g → g < c → besT x g ≠ -1 → ¬ S (besT x g) → fr (besT x g).toNat ≠ fr x.toNat - 1) ∨ ((∃ g : Int, 0 ≤ g ∧ g < c ∧ be = besT x g) ∧ be ≠ -1 ∧ fr be.toNat = fr x.toNat - 1 ∧ ∀ g : Int, 0 ≤ g → g < c → besT x g ≠ -1 → ¬ S (besT x g) → fr (besT x g).toNat = fr x.toNat - 1 → be ≤ besT x g)
theorem nmn9_0 {S : Int → Prop} {fr : Nat → Int} {x : Int} : NMN9 S fr x (-1) 0 := by sorry
theorem nmn9_n {S : Int → Prop} {fr : Nat → Int} {x be c d : Int} (h : NMN9 S fr x be c) (hd : d = besT x c) (hn : d = -1 ∨ S d ∨ fr d.toNat ≠ fr x.toNat - 1 ∨ (be ≠ -1 ∧ be ≤ d)) : NMN9 S fr x be (c + 1) := by sorry
theorem nmn9_y {S : Int → Prop} {fr : Nat → Int} {x be c d : Int} (h : NMN9 S fr x be c) (c0 : 0 ≤ c) (hd : d = besT x c) (d1 : d ≠ -1) (hf : fr d.toNat = fr x.toNat - 1) (hb : be = -1 ∨ d < be) : NMN9 S fr x d (c + 1) := by sorry
theorem nmn9_e {S : Int → Prop} {fr : Nat → Int} {x be : Int} (h : NMN9 S fr x be 6) (w : ∃ e : Int, adjT x e ∧ fr e.toNat = fr x.toNat - 1) (hS : ∀ d : Int, adjT x d → fr d.toNat = fr x.toNat - 1 → ¬ S d) : NRP fr x be := by sorry
def SPM (S : Int → Prop) (b h g n : Int) (t : PS) : Prop := BFQ 404 232 (bfN S b (6 * h + g).toNat) n t ∧ BFI S (bfN S b (6 * h + g).toNat) ∧ BFW S b h
theorem spm_0 {S : Int → Prop} {b : Int} {s t : PS} (b0 : 0 ≤ b ∧ b ≤ 127) (hb : ¬ S b) (h1 : ∀ c : Nat, c < 128 → iC s 404 c = -1) (h2 : UPD 404 b 0 s t) (h3 : iC t 232 0 = b) : SPM S b 0 0 1 t := by sorry
theorem spm_n {S : Int → Prop} {b h g n d : Int} {t : PS} (q : SPM S b h g n t) (h0 : 0 ≤ h ∧ h < n) (g0 : 0 ≤ g ∧ g ≤ 5) (hd : d = besT (iC t 232 h.toNat) g) (hn : d = -1 ∨ (0 ≤ d ∧ d ≤ 127 ∧ (iC t 404 d.toNat ≠ -1 ∨ S d ∨ 128 ≤ n))) : SPM S b h (g + 1) n t := by sorry
theorem spm_y {S : Int → Prop} {b h g n d v : Int} {t u : PS} (q : SPM S b h g n t) (h0 : 0 ≤ h ∧ h < n) (g0 : 0 ≤ g ∧ g ≤ 5) (hd : d = besT (iC t 232 h.toNat) g) (d0 : 0 ≤ d ∧ d ≤ 127) (hf : iC t 404 d.toNat = -1) (hS : ¬ S d) (n1 : n < 128) (hx : 0 ≤ iC t 232 h.toNat ∧ iC t 232 h.toNat ≤ 127) (hv : v = iC t 404 (iC t 232 h.toNat).toNat + 1) (h1 : UPD 404 d v t u) (h2 : UPD 232 n d t u) : SPM S b h (g + 1) (n + 1) u := by sorry
theorem spm_f {S : Int → Prop} {b h g n : Int} {t : PS} (q : SPM S b h g n t) (h0 : 0 ≤ h ∧ h < n) : (iC t 404 (iC t 232 h.toNat).toNat ≤ 127 ∧ 0 ≤ iC t 404 (iC t 232 h.toNat).toNat) ∧ n ≤ 128 := by sorry
theorem spm_nx {S : Int → Prop} {b h n m : Int} {t : PS} (q : SPM S b h 6 n t) (h0 : 0 ≤ h) (hm : m = ((bfN S b (6 * h + 0).toNat).2.2 : Int)) (hh : h < m) : SPM S b (h + 1) 0 n t := by sorry
def FRM8 (S : Int → Prop) (b : Int) (t : PS) : Prop := ∃ σ, BFE S b σ ∧ BFI S σ ∧ ∀ c : Nat, c < 128 → iC t 404 c = σ.1 c
theorem frm_of {S : Int → Prop} {b h n : Int} {t : PS} (q : SPM S b h 0 n t) (h0 : 0 ≤ h) (hh : n ≤ h) : FRM8 S b t := by sorry
def FRQM (xx : Nat) (S : Int → Prop) (a b n c : Int) (t : PS) : Prop := ∃ σ, BFE S b σ ∧ BFI S σ ∧ (∀ c : Nat, c < 128 → iC t 404 c = σ.1 c) ∧ σ.1 a.toNat = n - 1 ∧ PTS σ.1 a (fun k => iC t (405 + xx) k) c
theorem frqm_0 {xx : Nat} {S : Int → Prop} {a b n : Int} {t u : PS} (h : FRM8 S b t) (a0 : 0 ≤ a ∧ a ≤ 127) (hn : iC t 404 a.toNat = n - 1) (h1 : SAM 404 t u) (h2 : iC u (405 + xx) 0 = a) : FRQM xx S a b n 1 u := by sorry
theorem frqm_ex {xx : Nat} {S : Int → Prop} {a b n c : Int} {t : PS} (h : FRQM xx S a b n c t) (a0 : 0 ≤ a ∧ a ≤ 127) (c0 : 1 ≤ c ∧ c < n) : ∃ e : Int, adjT (iC t (405 + xx) (c - 1).toNat) e ∧ (fun c => iC t 404 c) e.toNat = (fun c => iC t 404 c) (iC t (405 + xx) (c - 1).toNat).toNat - 1 := by sorry
theorem frqm_up {xx : Nat} {S : Int → Prop} {a b n c d : Int} {t u : PS} (h : FRQM xx S a b n c t) (a0 : 0 ≤ a ∧ a ≤ 127) (c0 : 1 ≤ c ∧ c < n) (hd : NRP (fun c => iC t 404 c) (iC t (405 + xx) (c - 1).toNat) d) (h1 : SAM 404 t u) (h2 : UPD (405 + xx) c d t u) : FRQM xx S a b n (c + 1) u := by sorry
theorem frqm_e {xx : Nat} {S : Int → Prop} {a b n c : Int} {t : PS} (h : FRQM xx S a b n c t) (n0 : 1 ≤ n ∧ n ≤ 24) (hc : c = n) (ha : ¬ S a) (hb : ¬ S b) : RNR S a b n (fun k => iC t (405 + xx) k) := by sorry
theorem frm_no {S : Int → Prop} {a b : Int} {t : PS} {p : Nat → Int} (h : FRM8 S b t) (a0 : 0 ≤ a ∧ a ≤ 127) (hn : iC t 404 a.toNat < 0 ∨ 23 < iC t 404 a.toNat) : RNR S a b 0 p := by sorry
theorem frm_r {S : Int → Prop} {b : Int} {t : PS} (h : FRM8 S b t) {c : Nat} (hc : c < 128) : -1 ≤ iC t 404 c ∧ iC t 404 c ≤ 127 := by sorry
theorem frqm_s {xx : Nat} {S : Int → Prop} {a b n c : Int} {t : PS} (h : FRQM xx S a b n c t) (hr : 0 ≤ iC t (405 + xx) (c - 1).toNat ∧ iC t (405 + xx) (c - 1).toNat ≤ 127) (hv : 1 ≤ iC t 404 (iC t (405 + xx) (c - 1).toNat).toNat) : ∀ d : Int, adjT (iC t (405 + xx) (c - 1).toNat) d → (fun c => iC t 404 c) d.toNat = (fun c => iC t 404 c) (iC t (405 + xx) (c - 1).toNat).toNat - 1 → ¬ S d := by sorry
section M87kz
variable {l : Launch} {s0 : State} {D : va_G} {tys : List (ClassId × FieldType)} {a0 : Array Value} {A : Nat → Nat} {dT : Nat → ClassId} {s : PS}
set_option maxRecDepth 4000 in
theorem k_isHit9 (G : GX l s0 D tys a0 dT) {U : AirD} (I : Bd s) (jMDJ : MDJ U s) {x y : Int} (p0 : 0 ≤ x ∧ x < iI s 90) (p1 : 0 ≤ y ∧ y ≤ 23) : CT l s0 D A dT 280 (rmN 280) [.ref (A 179), .int (Int32.ofInt x), .int (Int32.ofInt y)] s (fun o t => Bd t ∧ Fm [] [] s t ∧ ∃ e, o = .inl (some (.int (Int32.ofInt e))) ∧ rng e ∧ ((e = 1 ∧ hitP U (stM s) (y : Int).toNat (x : Int).toNat) ∨ (e = 0 ∧ ¬ hitP U (stM s) (y : Int).toNat (x : Int).toNat))) := by sorry
set_option maxRecDepth 4000 in
theorem k_findRound9 (G : GX l s0 D tys a0 dT) {U : AirD} (I : Bd s) (jRLx : RLx s) (jMDJ : MDJ U s) {x : Int} (p0 : 0 ≤ x ∧ x < iI s 90) : CT l s0 D A dT 281 (rmN 281) [.ref (A 179), .int (Int32.ofInt x)] s (fun o t => Bd t ∧ Fm [] [403, 404, 232, 405, 406, 407, 408, 409, 410, 411, 412, 413, 414, 415, 416] s t ∧ RLx t ∧ o = .inl none ∧ (RNR (stM s) (fsA U (x : Int).toNat) (lsA U (x : Int).toNat) (iC t 403 (x : Int).toNat) (fun k => iC t (405 + (x : Int).toNat) k) ∧ RKP x s t)) := by sorry
end M87kz
