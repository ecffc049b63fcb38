/-! The law's relations, call by call -/
theorem twj_st {s t : PS} (r : TWJ s) (z : NZJ s) (m : MOI s) (c0 : 0 ≤ iI s 9) (c1 : iI t 9 ≤ 12) (hc : iI t 9 = iI s 9 ∨ iI t 9 = iI s 9 + 1) (h1 : SAM 14 s t) (h2 : SAM 11 s t) : TWJ t := by
  rcases hc with hc | hc
  · intro q hq
    have w := r q hq
    rw [h1, hc]
    exact ⟨w.1, fun j hj => by rw [h2, h2]; exact w.2 j hj⟩
  · exact twj_new r hc c0 h1 h2 (nzj_m z m (Int.le_refl _) c0 (by omega))
theorem nzj_st {s t : PS} (z : NZJ s) (hc : iI s 9 ≤ iI t 9) (h : SAM 8 s t) : NZJ t := fun x k x0 x1 x2 k0 k1 => by
  unfold CNR
  rw [h]
  exact z x k (by omega) x1 x2 k0 k1
theorem nzj_fl {s t : PS} {u a b w : Int} (z : NZJ s) (f : FLU (CNR s) (CNR t) u a b w) (hu : u < iI s 9) (hc : iI t 9 = iI s 9) : NZJ t := fun x k x0 x1 x2 k0 k1 => by
  rw [f x k x1 x2 k0 k1, if_neg (by omega)]
  exact z x k (by omega) x1 x2 k0 k1
theorem NZJ_fm {L M : List Nat} {s t : PS} (F : Fm L M s t) (h : 9 ∉ L ∧ 8 ∉ M) (r : NZJ s) : NZJ t := nzj_st r (by rw [fm_i F h.1]; exact Int.le_refl _) (sam_fm F h.2)
/-- rules that are not taken: all stays -/
theorem rlj_s {s t : PS} (r : RLJ s) (e1 : iI t 13 = iI s 13) (e2 : iI t 15 = iI s 15) (e3 : SAM 16 s t) (e4 : SAM 17 s t) (e5 : iI t 85 = iI s 85) (e6 : iI t 82 = iI s 82) (e7 : SAM 158 s t) : RLJ t := by
  obtain ⟨L, r1, r2, r3⟩ := r
  refine ⟨L, ?_, ?_, fun q => r3 (e2.symm.trans q)⟩
  · have ec : ∀ x, cdL t x = cdL s x := fun x => by
      unfold cdL bgV
      simp only [show ∀ j, iC t 16 j = iC s 16 j from e3, show ∀ j, iC t 17 j = iC s 17 j from e4]
    unfold LDC
    rw [e1, ec]
    exact r1
  · rcases r2 with r2 | ⟨B, b1, b2, c, q, b3, b4⟩
    · exact Or.inl ⟨e5.trans r2.1, r2.2⟩
    · exact Or.inr ⟨B, by rw [e5, e6]; exact b1, fun k hk => (e7 k).trans (b2 k (by rw [← e6]; exact hk)), c, q, by rw [e5, e6]; exact b3, b4⟩
/-- what the class has adopted, seen a call of the model's later -/
theorem rlc_s {B : Nat → Int} {N e : Int} {t u : PS} (h : RLC B N e t) (e1 : iI u 13 = iI t 13) (e2 : iI u 15 = iI t 15) (e3 : SAM 16 t u) (e4 : SAM 17 t u) : RLC B N e u := by
  obtain ⟨c, la, h1, h2⟩ := h
  have ec : ∀ x, cdL u x = cdL t x := fun x => by
    unfold cdL bgV
    simp only [show ∀ j, iC u 16 j = iC t 16 j from e3, show ∀ j, iC u 17 j = iC t 17 j from e4]
  exact ⟨c, la, by rw [e1]; exact h1, fun q => by rw [e1, ec, e2]; exact h2 (by rw [← e1]; exact q)⟩
/-- both have read the same text of rules: one answer -/
theorem rl_eq {B : Nat → Int} {N e e' : Int} {t u : PS} (h : (0 ≤ e ∧ RLC B N e t) ∨ (e < 0 ∧ RUA B N e)) (g : (0 ≤ e' ∧ RLM B N e' u) ∨ (e' < 0 ∧ RUA B N e')) : e = e' := by
  have a : RUA B N e := h.elim (fun q => by obtain ⟨c, la, z, _⟩ := q.2; exact ruq_a z) (fun q => q.2)
  have b : RUA B N e' := g.elim (fun q => by obtain ⟨k, c, z, _⟩ := q.2; exact ruq_a z) (fun q => q.2)
  exact rua_un a b
/-- pieces of class and model: a box, moves, a mark taken back -/
theorem apj_pnq {B : Int → Prop} {p e e' : Int} {s t u : PS} (a : AEQ 21 228 128 s) (hC : PNQ B (pfC s) (pfC t) p 128 e) (hM : PNQ B (pfM t) (pfM u) p 128 e') (h1 : SAM 228 s t) (h2 : SAM 21 t u) : e = e' ∧ AEQ 21 228 128 u := by
  have z := pnq_eq hC hM (fun j hj => (a j hj).trans (h1 j).symm)
  exact ⟨z.1, fun j hj => (h2 j).trans (z.2 j hj)⟩
theorem apj_gre {U : AirD} {x e e' : Int} {s t u : PS} (a : AEQ 21 228 128 s) (l : AEQ 24 229 8 s) (A : AIR s) (d : CDJ U s) (I : ∀ j, j < 128 → -1 ≤ iC s 21 j ∧ iC s 21 j ≤ 7) (hC : GRE U (fun j => iC s 24 j) (pfC s) x e (pfC t)) (hM : GRE U (fun j => iC t 229 j) (pfM t) x e' (pfM u)) (h1 : SAM 228 s t) (h2 : SAM 21 t u) (h3 : SAM 229 s t) : e = e' ∧ AEQ 21 228 128 u := by
  have z := gre_eq (u_wok A d) (fun j hj => (a j hj).trans (h1 j).symm) (fun j hj => (l j hj).trans (h3 j).symm) I hC hM
  exact ⟨z.1, fun j hj => (h2 j).trans (z.2 j hj)⟩
theorem apj_bkq {s t u : PS} (m : MKJ s) (hk : 1 ≤ iI s 20) (hC : BKQ (pfC s) (pfC t) (fun j => iC s 25 (128 * (iI s 20 - 1).toNat + j)) 128) (hM : BKQ (pfM t) (pfM u) (fun j => iC t (241 + (iI t 98 - 1).toNat) j) 128) (em : iI t 98 = iI s 20) (hr : ∀ k j : Nat, k < 4 → iC t (241 + k) j = iC s (241 + k) j) (h2 : SAM 21 t u) : AEQ 21 228 128 u := fun j hj => by
  have b := m.1
  have z := bkq_eq hC hM (fun j hj => by
    show iC s 25 (128 * (iI s 20 - 1).toNat + j) = iC t (241 + (iI t 98 - 1).toNat) j
    rw [em, hr _ j (by omega)]
    exact m.2 _ j (by omega) hj) j hj
  exact (h2 j).trans z
/-- rules, in class and model -/
theorem rl_both {B : Nat → Int} {N e e' : Int} {s t u : PS} (r : RLJ s) (h : (0 ≤ e ∧ RLC B N e t) ∨ (e < 0 ∧ RUA B N e ∧ iI t 13 = iI s 13 ∧ iI t 15 = iI s 15 ∧ SAM 16 s t ∧ SAM 17 s t)) (g : (0 ≤ e' ∧ RLM B N e' u) ∨ (e' < 0 ∧ RUA B N e' ∧ iI u 85 = iI t 85 ∧ iI u 82 = iI t 82 ∧ SAM 158 t u)) (e1 : iI u 13 = iI t 13) (e2 : iI u 15 = iI t 15) (e3 : SAM 16 t u) (e4 : SAM 17 t u) (f1 : iI t 85 = iI s 85) (f2 : iI t 82 = iI s 82) (f3 : SAM 158 s t) : e = e' ∧ RLJ u := by
  have z : e = e' := rl_eq (u := u) (t := t) (h.imp id (fun q => ⟨q.1, q.2.1⟩)) (g.imp id (fun q => ⟨q.1, q.2.1⟩))
  refine ⟨z, ?_⟩
  rcases h with ⟨h0, h⟩ | ⟨h0, _, h1, h2, h3, h4⟩
  · rcases g with ⟨g0, g⟩ | ⟨g0, _⟩
    · rw [← z] at g
      exact rlj_new (rlc_s h e1 e2 e3 e4) g
    · omega
  · rcases g with ⟨g0, _⟩ | ⟨g0, _, g1, g2, g3⟩
    · omega
    · exact rlj_s r (e1.trans h1) (e2.trans h2) (sam_ts h3 e3) (sam_ts h4 e4) (g1.trans f1) (g2.trans f2) (sam_ts f3 g3)
/-- fewer marks -/
theorem mkj_s {s u : PS} (r : MKJ s) (hc : 0 ≤ iI u 20 ∧ iI u 20 ≤ iI s 20) (h1 : SAM 25 s u) (h2 : ∀ k j : Nat, k < 4 → iC u (241 + k) j = iC s (241 + k) j) : MKJ u := ⟨by have := r.1; omega, fun k j hk hj => by
  have c := r.1
  rw [h1, h2 k j (by omega)]
  exact r.2 k j (by omega) hj⟩
theorem mkp_t {m n : Int} {s t u : PS} (h : MKP m n t u) (h1 : SAM 228 s t) (h2 : ∀ k j : Nat, k < 4 → iC t (241 + k) j = iC s (241 + k) j) : MKP m n s u := fun k j hk => ⟨fun q => ((h k j hk).1 q).trans (h1 j), fun q => ((h k j hk).2 q).trans (h2 k j hk)⟩
theorem strx_c {B : Nat → Int} {w a b : Int} (h : STRx B w a b) : b = a ∨ b = a + 1 := by
  rcases h with ⟨h1, h2⟩ | ⟨_, ⟨_, h2⟩ | ⟨_, h2⟩⟩
  · exact Or.inl (h2.trans h1.symm)
  · exact Or.inl h2
  · exact Or.inr h2
section M87k9
variable {l : Launch} {s0 : State} {D : va_G} {tys : List (ClassId × FieldType)} {a0 : Array Value} {A : Nat → Nat} {dT : Nat → ClassId} {s : PS}
end M87k9
