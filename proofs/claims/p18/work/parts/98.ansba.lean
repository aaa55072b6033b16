/-! both: who noted what, and being there still -/
