/-! left out in lite mode -/
