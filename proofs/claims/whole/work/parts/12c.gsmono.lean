/-- a contract that says less -/
theorem gs_Mv_post {l : Launch} {X : gs_X} {y : MethodName} {b : ByteArray} {n : Nat} {rm : Room} {σ : gs_St} {av : List Value} {P P' : gs_St → Prop} (h : gs_Mv l X y b n rm σ av P) (hP : ∀ u, P u → P' u) : gs_Mv l X y b n rm σ av P' := fun p e a b c s m args below hf hap hp ht => by
  obtain ⟨n, o, h1, h2, h3, ⟨⟨u, q1, q2, q3⟩, q4⟩, q5⟩ := h p e a b c s m args below hf hap hp ht
  exact ⟨n, o, h1, h2, h3, ⟨⟨u, q1, hP u q2, q3⟩, q4⟩, q5⟩
theorem gs_Mi_post {l : Launch} {X : gs_X} {y : MethodName} {b : ByteArray} {n : Nat} {r : Option FieldType} {rm : Room} {σ : gs_St} {av : List Value} {P P' : Int32 → gs_St → Prop} (h : gs_Mi l X y b n r rm σ av P) (hP : ∀ z u, P z u → P' z u) : gs_Mi l X y b n r rm σ av P' := fun p e a b c s m args below hf hap hp ht => by
  obtain ⟨n, o, h1, h2, h3, ⟨⟨z, u, q1, q2, q3⟩, q4⟩, q5⟩ := h p e a b c s m args below hf hap hp ht
  exact ⟨n, o, h1, h2, h3, ⟨⟨z, u, q1, hP z u q2, q3⟩, q4⟩, q5⟩
