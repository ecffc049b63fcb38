/-! A start in which the script stands: the witness's own, with another script in the cell of the argument -/
def rAbout : State := start1.aboutOf (rXs.map Value.int).toArray
theorem rAbout_vm : rAbout.vm = start1.about.vm := rfl
/-- words that speak of the tables alone -/
def r_vmO : Jvm.Cond → Bool
  | .code .. => true
  | .codeWith .. => true
  | .codeSync .. => true
  | .initialized .. => true
  | .classLink .. => true
  | .instantiable .. => true
  | .methodLink .. => true
  | .methodLinkNest .. => true
  | .fieldLink .. => true
  | .instanceMethod .. => true
  | .soleField .. => true
  | .selects .. => true
  | .laysFinal .. => true
  | .lays .. => true
  | .privateMethod .. => true
  | .superclass .. => true
  | .constant .. => true
  | .constantLong .. => true
  | .declares .. => true
  | .arrayClass .. => true
  | .arrayOver .. => true
  | .native .. => true
  | .sameMethod .. => true
  | _ => false
set_option maxHeartbeats 4000000 in
theorem r_vmS {c : Jvm.Cond} (h : r_vmO c = true) (a : Array Value) (s : State) (hp : Heap) (n : Nat) : c.before a { s with heap := hp, slotsUsed := n } = c.before a s := by
  cases c <;> first | exact Bool.noConfusion (show false = true from h) | rfl
theorem rAbout_eq : rAbout = { start1.about with heap := rAbout.heap, slotsUsed := rAbout.slotsUsed } := rfl
theorem r_words {l : List Jvm.Cond} (h0 : ∀ c ∈ l, c.before start1.args0 start1.about = true) (h1 : l.all (fun c => r_vmO c || c.before start1.args0 rAbout) = true) : ∀ c ∈ l, c.before start1.args0 rAbout = true := by
  intro c hc
  have h := List.all_eq_true.mp h1 c hc
  rw [Bool.or_eq_true] at h
  rcases h with h | h
  · rw [rAbout_eq, r_vmS h]
    exact h0 c hc
  · exact h
theorem r_oth_1 : tables_1_1.all (fun c => r_vmO c || c.before start1.args0 rAbout) = true := by decide +kernel
theorem r_words_1 : ∀ c ∈ tables_1_1, c.before start1.args0 rAbout = true := r_words start1.words_1 r_oth_1
theorem r_oth_2 : tables_1_2.all (fun c => r_vmO c || c.before start1.args0 rAbout) = true := by decide +kernel
theorem r_words_2 : ∀ c ∈ tables_1_2, c.before start1.args0 rAbout = true := r_words start1.words_2 r_oth_2
theorem r_oth_3 : tables_1_3.all (fun c => r_vmO c || c.before start1.args0 rAbout) = true := by decide +kernel
theorem r_words_3 : ∀ c ∈ tables_1_3, c.before start1.args0 rAbout = true := r_words start1.words_3 r_oth_3
theorem r_oth_4 : tables_1_4.all (fun c => r_vmO c || c.before start1.args0 rAbout) = true := by decide +kernel
theorem r_words_4 : ∀ c ∈ tables_1_4, c.before start1.args0 rAbout = true := r_words start1.words_4 r_oth_4
theorem r_oth_5 : tables_1_5.all (fun c => r_vmO c || c.before start1.args0 rAbout) = true := by decide +kernel
theorem r_words_5 : ∀ c ∈ tables_1_5, c.before start1.args0 rAbout = true := r_words start1.words_5 r_oth_5
theorem r_oth_6 : tables_1_6.all (fun c => r_vmO c || c.before start1.args0 rAbout) = true := by decide +kernel
theorem r_words_6 : ∀ c ∈ tables_1_6, c.before start1.args0 rAbout = true := r_words start1.words_6 r_oth_6
theorem r_oth_7 : tables_1_7.all (fun c => r_vmO c || c.before start1.args0 rAbout) = true := by decide +kernel
theorem r_words_7 : ∀ c ∈ tables_1_7, c.before start1.args0 rAbout = true := r_words start1.words_7 r_oth_7
theorem r_oth_8 : tables_1_8.all (fun c => r_vmO c || c.before start1.args0 rAbout) = true := by decide +kernel
theorem r_words_8 : ∀ c ∈ tables_1_8, c.before start1.args0 rAbout = true := r_words start1.words_8 r_oth_8
theorem r_oth_9 : tables_1_9.all (fun c => r_vmO c || c.before start1.args0 rAbout) = true := by decide +kernel
theorem r_words_9 : ∀ c ∈ tables_1_9, c.before start1.args0 rAbout = true := r_words start1.words_9 r_oth_9
theorem r_oth_10 : tables_1_10.all (fun c => r_vmO c || c.before start1.args0 rAbout) = true := by decide +kernel
theorem r_words_10 : ∀ c ∈ tables_1_10, c.before start1.args0 rAbout = true := r_words start1.words_10 r_oth_10
theorem r_oth_11 : tables_1_11.all (fun c => r_vmO c || c.before start1.args0 rAbout) = true := by decide +kernel
theorem r_words_11 : ∀ c ∈ tables_1_11, c.before start1.args0 rAbout = true := r_words start1.words_11 r_oth_11
theorem r_all : ∀ c ∈ (Jvm.Cond.code x code maxLocals ret :: tables_1), c.before start1.args0 rAbout = true := by
  intro c hc
  rcases List.mem_cons.mp hc with h | h
  · rw [h]
    rw [rAbout_eq, r_vmS (c := Jvm.Cond.code x code maxLocals ret) rfl]
    exact start1.words _ List.mem_cons_self
  · have h1 : c ∈ tables_1_1 ++ (tables_1_2 ++ (tables_1_3 ++ (tables_1_4 ++ (tables_1_5 ++ (tables_1_6 ++ (tables_1_7 ++ (tables_1_8 ++ (tables_1_9 ++ (tables_1_10 ++ (tables_1_11)))))))))) := h
    rcases List.mem_append.mp h1 with h2 | h1
    · exact r_words_1 c h2
    rcases List.mem_append.mp h1 with h2 | h1
    · exact r_words_2 c h2
    rcases List.mem_append.mp h1 with h2 | h1
    · exact r_words_3 c h2
    rcases List.mem_append.mp h1 with h2 | h1
    · exact r_words_4 c h2
    rcases List.mem_append.mp h1 with h2 | h1
    · exact r_words_5 c h2
    rcases List.mem_append.mp h1 with h2 | h1
    · exact r_words_6 c h2
    rcases List.mem_append.mp h1 with h2 | h1
    · exact r_words_7 c h2
    rcases List.mem_append.mp h1 with h2 | h1
    · exact r_words_8 c h2
    rcases List.mem_append.mp h1 with h2 | h1
    · exact r_words_9 c h2
    rcases List.mem_append.mp h1 with h2 | h1
    · exact r_words_10 c h2
    exact r_words_11 c h1
theorem r_given : (Jvm.Cond.and given_1 narrow_1).before start1.args0 rAbout = true := by decide +kernel
theorem r_rest : rest_1_c.before start1.args0 rAbout = true := by decide +kernel
theorem r_frames : rAbout.frames = Frame.invoking ⟨0, 0⟩ start1.args0 :: Lib.HandBits.below0 := rfl
theorem r_room : rAbout.hasRoom start1.e0.platform room_1 = true := launch0.hasRoom_least _ room_1 (by decide +kernel) (by decide +kernel) (by decide +kernel) (by decide +kernel) (by decide +kernel) (by decide +kernel)
theorem r_applies : (headSpec (Jvm.Cond.code x code maxLocals ret :: tables_1) room_1).applies x start1.e0.platform rAbout = true :=
  (Spec.applies_iff r_frames).mpr ⟨rfl, rfl, rfl, by decide +kernel, by decide +kernel, by decide +kernel, r_room, atoms_intro r_all⟩
theorem r_start : AtStart classFile x code maxLocals ret World_1 tables_1 room_1 Calls_1 rest_1 Pre_1 launch0 start1.p0 start1.e0 rAbout ⟨0, 0⟩ start1.args0 Lib.HandBits.below0 := by
  obtain ⟨h1, h2, h3, h4, h5, h6, -⟩ := start1.atStart
  exact ⟨h1, h2, h3, h4, h5, h6, r_frames, by decide +kernel, by decide +kernel, r_applies, trivial, r_rest, r_given⟩
theorem r_ints : rAbout.IntsAt 0 rXs := by
  refine ⟨{ cls := 31, slots := (rXs.map Value.int).toArray, vm := .none }, rfl, rfl, ⟨fun k h => ?_, ?_⟩, ?_⟩
  · cases h
  · exact ⟨_, rfl, _, rfl⟩
  · rw [show rXs.length = 156 from by decide +kernel]
    decide
