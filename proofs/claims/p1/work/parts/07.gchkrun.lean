theorem gAtt_chk {j pc : Nat} {e : gE} (h : gAtt j pc = some e) : e.1 = pc ∧ gchk (gM j) e = true := sorry
