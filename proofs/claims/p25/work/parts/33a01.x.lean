theorem nI_ex (x : Int32) : ∃ n, x = nI n ∧ n < 4294967296 := by
  obtain ⟨a, h, hb⟩ := fI_of (fun _ => x)
  exact ⟨a 0, congrFun h 0, hb 0⟩
