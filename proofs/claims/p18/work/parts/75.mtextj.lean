theorem bg {I : SI} (J : SJ) (_ : True) : H_X12_begins I J ∧ FrM I (FI_X12_begins I J) := by
  have s := starts_H (f := 0) (I := I) (J := J) r0
  unfold H_X12_begins FI_X12_begins
  exact s
