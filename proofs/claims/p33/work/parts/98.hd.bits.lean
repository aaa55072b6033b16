/-! both: bits of a mask; what is known and stands -/
def bt (s : Int32) (i : Nat) : Bool := s.toBitVec.getLsbD i
theorem bt_one : ∀ j, j < 24 → ((1 : Int32) <<< (nI j &&& 31)).toBitVec = BitVec.twoPow 32 j := by decide +kernel
theorem bt_sh : ∀ j, j < 24 → ((nI j &&& 31).toBitVec.smod 32).toNat = j := by decide +kernel
theorem bt_or {s : Int32} {i j : Nat} (hj : j < 24) (hi : i < 24) : bt (s ||| ((1 : Int32) <<< (nI j &&& 31))) i = (bt s i || decide (i = j)) := by
  unfold bt
  rw [Int32.toBitVec_or, bt_one j hj, BitVec.getLsbD_or, BitVec.getLsbD_twoPow]
  have e : (decide (j < 32) && decide (j = i)) = decide (i = j) := by
    by_cases q : i = j
    · subst q
      simp [show i < 32 by omega]
    · simp [q, show ¬ j = i from fun z => q z.symm]
  rw [← e]
theorem bt_get {s : Int32} {i : Nat} (hi : i < 24) : (s >>> (nI i &&& 31)) &&& 1 = 0 ↔ bt s i = false := by
  have e1 : ((s >>> (nI i &&& 31)) &&& 1).toBitVec = (s.toBitVec.sshiftRight i) &&& 1#32 := by
    rw [Int32.toBitVec_and, Int32.toBitVec_shiftRight]
    unfold BitVec.sshiftRight'
    rw [bt_sh i hi]
    rfl
  have sh : ∀ k, k = 0 → (s.toBitVec.sshiftRight i).getLsbD k = s.toBitVec.getLsbD i := fun k hk => by
    subst hk
    rw [BitVec.getLsbD_sshiftRight]
    simp [show i < 32 by omega]
  unfold bt
  constructor
  · intro h
    have h1 : (s.toBitVec.sshiftRight i) &&& 1#32 = 0#32 := by
      rw [← e1, h]
      rfl
    have h2 : ((s.toBitVec.sshiftRight i) &&& 1#32).getLsbD 0 = (0#32).getLsbD 0 := by rw [h1]
    rw [BitVec.getLsbD_and, sh 0 rfl] at h2
    simpa using h2
  · intro h
    refine Int32.toBitVec_inj.mp (e1.trans ?_)
    show (s.toBitVec.sshiftRight i) &&& 1#32 = 0#32
    refine BitVec.eq_of_getLsbD_eq (fun k hk => ?_)
    rw [BitVec.getLsbD_and]
    by_cases z : k = 0
    · rw [sh k z, h]
      simp
    · simp [z]
