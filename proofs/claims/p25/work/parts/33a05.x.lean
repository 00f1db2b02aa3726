theorem copy_ev (a v q c l ta tv tq tc tl : Nat → Nat) (wt t : Int32) : fX2_copyFrom (fI ta) (fI tv) (fI tq) (fI tc) (fI tl) wt (fI a) (fI v) (fI q) (fI c) (fI l) t = some (fI (cut 24 a ta), fI (cut 16 v tv), fI (cut 68 q tq), fI (cut 96 c tc), fI (cut 32 l tl), t) := by
  unfold fX2_copyFrom
  have c24 : (24 : Int32).toNatClampNeg = 24 := by rw [li_24]; exact nI_clamp (by omega)
  have c16 : (16 : Int32).toNatClampNeg = 16 := by rw [li_16]; exact nI_clamp (by omega)
  have c0 : (0 : Int32).toNatClampNeg = 0 := by rw [li_0]; exact nI_clamp (by omega)
  have p0 : ¬ (0 : Int32) < 0 := by decide
  have p24 : ¬ (24 : Int32) < 0 := by decide
  have p16 : ¬ (16 : Int32) < 0 := by decide
  have k24 : acok (0 : Int32) (0 : Int32) (24 : Int32) 24 24 := ⟨p0, p0, p24, by rw [c24, c0]; omega, by rw [c24, c0]; omega⟩
  have k16 : acok (0 : Int32) (0 : Int32) (16 : Int32) 16 16 := ⟨p0, p0, p16, by rw [c16, c0]; omega, by rw [c16, c0]; omega⟩
  rw [nd_ev k24, nm_ev, nd_ev k16, nm_ev, tcopy_ev 68 (by omega), ob1_ev, tcopy_ev 96 (by omega), ob1_ev, tcopy_ev 32 (by omega), ob1_ev, c24, c16, c0, cpy_cut, cpy_cut]
