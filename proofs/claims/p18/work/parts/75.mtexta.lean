/-! the model takes a text -/
