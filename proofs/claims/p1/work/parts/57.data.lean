def m_d (y : Nat) : eD := (⟨"", "", ""⟩, ⟨#[]⟩, pg_ml y, none, [])
