/-! being there -/
