/-! Determined runs: more -/
theorem hti_g {T : TT} {Is : List Nat} {q0 : Nat} (h : ∀ q ∈ Is, T.1 q) : ∀ q ∈ q0 :: Is, (TI T q0).1 q := fun q hq => (List.mem_cons.mp hq).elim (fun e => Or.inl e) (fun e => Or.inr (h q e))
theorem hta_g {T : TT} {Ar : List Nat} {a0 : Nat} {n : Int} (h : ∀ a ∈ Ar, ∀ j, j < (bA a).2.2 → T.2 a j) (hn : ((bA a0).2.2 : Int) ≤ n) : ∀ a ∈ a0 :: Ar, ∀ j, j < (bA a).2.2 → (TU T a0 n).2 a j := fun a ha j hj => (List.mem_cons.mp ha).elim (fun e => Or.inl ⟨e, by subst e; omega⟩) (fun e => Or.inr (h a e j hj))
theorem MB_mono {l : Launch} {s0 : State} {D : va_G} {y : MethodName} {wd : Cond} {rm : Room} {vals : List Value} {ws : va_W} {K K' : mb_O → va_W → Prop} (h : MB l s0 D y wd rm vals ws K) (hk : ∀ o ws', K o ws' → K' o ws') : MB l s0 D y wd rm vals ws K' := by
  intro p e h1 h2 h3 s m args below hf ha hP hK
  obtain ⟨n, o, a1, a2, a3, a4⟩ := h p e h1 h2 h3 s m args below hf ha hP hK
  refine ⟨n, o, a1, a2, a3, ?_⟩
  rcases a4 with ⟨⟨v, ws', e1, k1, r⟩, r2⟩ | ⟨q, e1, E, ce, L, ⟨ws', k1, r⟩, r2⟩
  · exact Or.inl ⟨⟨v, ws', e1, hk _ _ k1, r⟩, r2⟩
  · exact Or.inr ⟨q, e1, E, ce, L, ⟨ws', hk _ _ k1, r⟩, r2⟩
/-- all is agreed -/
def TA : TT := (fun _ => True, fun _ _ => True)
section DT
variable {l : Launch} {s0 : State} {D : va_G} {A : Nat → Nat} {dT : Nat → ClassId} {mn : Nat} {rm : Room} {L M : List Nat} {To T : TT} {Q : mb_O → PS → Prop} {pc : Nat} {lv : List (Nat × Value)} {st : List Value} {g : PS}
theorem d_callT {idx cn : Nat} {z : Int} {As : List Value} {rm' : Room} {L' M' : List Nat} {T1 : TT} {Q1 : mb_O → PS → Prop} (h : cdA mn pc = some (.invokestatic idx, 3, cn, 1, z)) (hn : mAr (miB cn) = As.length) (hM : CD l s0 D A dT cn rm' L' M' T T1 As g Q1) (hc : rm'.cells = 0 ∧ rm'.slots = 0) (hr : rm'.frames + 1 ≤ rm.frames ∧ 8 + (mNL (miB cn) + 11) + rm'.locals ≤ rm.locals) (hw : (st.map fun v => v.category).sum ≤ 8) (hL : ∀ q ∈ L', q ∈ L) (hM2 : ∀ q ∈ M', q ∈ M)
    (hE : ∀ E g1, ¬ Q1 (.inr E) g1) (d : ∀ v g1, Q1 (.inl v) g1 → DS l s0 D A dT mn rm L M To Q T1 (pc + 3) lv (v.toList ++ st) g1) : DS l s0 D A dT mn rm L M To Q T pc lv (As.reverse ++ st) g := d_callS (b := 0) h hn hM hc hr hw hL hM2 hE d
end DT
