def thB (v n : Nat) : Int64 × Int64 := itN (fun _ s => (s.1 * (100 - (nI v).toInt64), s.2 * 100)) n (1, 1)
